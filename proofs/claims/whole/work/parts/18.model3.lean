def wj_M_unit_68 (xM : St) (a1 : Int32) (a2 : Int32) (a3 : Int32) (a4 : Int32) (post : Int32 → St → Prop) (xM_ : St) (s0_ : Int32) (s1_ : Int32) : Prop := wp_M_throwing xM_ s1_ s0_ (0 : Int32) (0 : Int32) (fun r70 u70 => ((r70 = 0 → (vp_in (u70.2 3) 24 ∧ (vp_in ((sA u70 4 (u70.2 3).toNatClampNeg a1).2 3) 24 ∧ (vp_in ((sA (sA u70 4 (u70.2 3).toNatClampNeg a1) 5 ((sA u70 4 (u70.2 3).toNatClampNeg a1).2 3).toNatClampNeg a2).2 3) 24 ∧ (vp_in ((sA (sA (sA u70 4 (u70.2 3).toNatClampNeg a1) 5 ((sA u70 4 (u70.2 3).toNatClampNeg a1).2 3).toNatClampNeg a2) 6 ((sA (sA u70 4 (u70.2 3).toNatClampNeg a1) 5 ((sA u70 4 (u70.2 3).toNatClampNeg a1).2 3).toNatClampNeg a2).2 3).toNatClampNeg a3).2 3) 24 ∧ (vp_in ((sA (sA (sA (sA u70 4 (u70.2 3).toNatClampNeg a1) 5 ((sA u70 4 (u70.2 3).toNatClampNeg a1).2 3).toNatClampNeg a2) 6 ((sA (sA u70 4 (u70.2 3).toNatClampNeg a1) 5 ((sA u70 4 (u70.2 3).toNatClampNeg a1).2 3).toNatClampNeg a2).2 3).toNatClampNeg a3) 7 ((sA (sA (sA u70 4 (u70.2 3).toNatClampNeg a1) 5 ((sA u70 4 (u70.2 3).toNatClampNeg a1).2 3).toNatClampNeg a2) 6 ((sA (sA u70 4 (u70.2 3).toNatClampNeg a1) 5 ((sA u70 4 (u70.2 3).toNatClampNeg a1).2 3).toNatClampNeg a2).2 3).toNatClampNeg a3).2 3).toNatClampNeg a4).2 3) 24 ∧ (vp_in ((sA (sA (sA (sA (sA u70 4 (u70.2 3).toNatClampNeg a1) 5 ((sA u70 4 (u70.2 3).toNatClampNeg a1).2 3).toNatClampNeg a2) 6 ((sA (sA u70 4 (u70.2 3).toNatClampNeg a1) 5 ((sA u70 4 (u70.2 3).toNatClampNeg a1).2 3).toNatClampNeg a2).2 3).toNatClampNeg a3) 7 ((sA (sA (sA u70 4 (u70.2 3).toNatClampNeg a1) 5 ((sA u70 4 (u70.2 3).toNatClampNeg a1).2 3).toNatClampNeg a2) 6 ((sA (sA u70 4 (u70.2 3).toNatClampNeg a1) 5 ((sA u70 4 (u70.2 3).toNatClampNeg a1).2 3).toNatClampNeg a2).2 3).toNatClampNeg a3).2 3).toNatClampNeg a4) 9 ((sA (sA (sA (sA u70 4 (u70.2 3).toNatClampNeg a1) 5 ((sA u70 4 (u70.2 3).toNatClampNeg a1).2 3).toNatClampNeg a2) 6 ((sA (sA u70 4 (u70.2 3).toNatClampNeg a1) 5 ((sA u70 4 (u70.2 3).toNatClampNeg a1).2 3).toNatClampNeg a2).2 3).toNatClampNeg a3) 7 ((sA (sA (sA u70 4 (u70.2 3).toNatClampNeg a1) 5 ((sA u70 4 (u70.2 3).toNatClampNeg a1).2 3).toNatClampNeg a2) 6 ((sA (sA u70 4 (u70.2 3).toNatClampNeg a1) 5 ((sA u70 4 (u70.2 3).toNatClampNeg a1).2 3).toNatClampNeg a2).2 3).toNatClampNeg a3).2 3).toNatClampNeg a4).2 3).toNatClampNeg (-1 : Int32)).2 3) 24 ∧ (wp_M_settle (sF (sA (sA (sA (sA (sA (sA u70 4 (u70.2 3).toNatClampNeg a1) 5 ((sA u70 4 (u70.2 3).toNatClampNeg a1).2 3).toNatClampNeg a2) 6 ((sA (sA u70 4 (u70.2 3).toNatClampNeg a1) 5 ((sA u70 4 (u70.2 3).toNatClampNeg a1).2 3).toNatClampNeg a2).2 3).toNatClampNeg a3) 7 ((sA (sA (sA u70 4 (u70.2 3).toNatClampNeg a1) 5 ((sA u70 4 (u70.2 3).toNatClampNeg a1).2 3).toNatClampNeg a2) 6 ((sA (sA u70 4 (u70.2 3).toNatClampNeg a1) 5 ((sA u70 4 (u70.2 3).toNatClampNeg a1).2 3).toNatClampNeg a2).2 3).toNatClampNeg a3).2 3).toNatClampNeg a4) 9 ((sA (sA (sA (sA u70 4 (u70.2 3).toNatClampNeg a1) 5 ((sA u70 4 (u70.2 3).toNatClampNeg a1).2 3).toNatClampNeg a2) 6 ((sA (sA u70 4 (u70.2 3).toNatClampNeg a1) 5 ((sA u70 4 (u70.2 3).toNatClampNeg a1).2 3).toNatClampNeg a2).2 3).toNatClampNeg a3) 7 ((sA (sA (sA u70 4 (u70.2 3).toNatClampNeg a1) 5 ((sA u70 4 (u70.2 3).toNatClampNeg a1).2 3).toNatClampNeg a2) 6 ((sA (sA u70 4 (u70.2 3).toNatClampNeg a1) 5 ((sA u70 4 (u70.2 3).toNatClampNeg a1).2 3).toNatClampNeg a2).2 3).toNatClampNeg a3).2 3).toNatClampNeg a4).2 3).toNatClampNeg (-1 : Int32)) 10 ((sA (sA (sA (sA (sA u70 4 (u70.2 3).toNatClampNeg a1) 5 ((sA u70 4 (u70.2 3).toNatClampNeg a1).2 3).toNatClampNeg a2) 6 ((sA (sA u70 4 (u70.2 3).toNatClampNeg a1) 5 ((sA u70 4 (u70.2 3).toNatClampNeg a1).2 3).toNatClampNeg a2).2 3).toNatClampNeg a3) 7 ((sA (sA (sA u70 4 (u70.2 3).toNatClampNeg a1) 5 ((sA u70 4 (u70.2 3).toNatClampNeg a1).2 3).toNatClampNeg a2) 6 ((sA (sA u70 4 (u70.2 3).toNatClampNeg a1) 5 ((sA u70 4 (u70.2 3).toNatClampNeg a1).2 3).toNatClampNeg a2).2 3).toNatClampNeg a3).2 3).toNatClampNeg a4) 9 ((sA (sA (sA (sA u70 4 (u70.2 3).toNatClampNeg a1) 5 ((sA u70 4 (u70.2 3).toNatClampNeg a1).2 3).toNatClampNeg a2) 6 ((sA (sA u70 4 (u70.2 3).toNatClampNeg a1) 5 ((sA u70 4 (u70.2 3).toNatClampNeg a1).2 3).toNatClampNeg a2).2 3).toNatClampNeg a3) 7 ((sA (sA (sA u70 4 (u70.2 3).toNatClampNeg a1) 5 ((sA u70 4 (u70.2 3).toNatClampNeg a1).2 3).toNatClampNeg a2) 6 ((sA (sA u70 4 (u70.2 3).toNatClampNeg a1) 5 ((sA u70 4 (u70.2 3).toNatClampNeg a1).2 3).toNatClampNeg a2).2 3).toNatClampNeg a3).2 3).toNatClampNeg a4).2 3).toNatClampNeg (-1 : Int32)).2 3).toNatClampNeg ((sA (sA (sA (sA (sA u70 4 (u70.2 3).toNatClampNeg a1) 5 ((sA u70 4 (u70.2 3).toNatClampNeg a1).2 3).toNatClampNeg a2) 6 ((sA (sA u70 4 (u70.2 3).toNatClampNeg a1) 5 ((sA u70 4 (u70.2 3).toNatClampNeg a1).2 3).toNatClampNeg a2).2 3).toNatClampNeg a3) 7 ((sA (sA (sA u70 4 (u70.2 3).toNatClampNeg a1) 5 ((sA u70 4 (u70.2 3).toNatClampNeg a1).2 3).toNatClampNeg a2) 6 ((sA (sA u70 4 (u70.2 3).toNatClampNeg a1) 5 ((sA u70 4 (u70.2 3).toNatClampNeg a1).2 3).toNatClampNeg a2).2 3).toNatClampNeg a3).2 3).toNatClampNeg a4) 9 ((sA (sA (sA (sA u70 4 (u70.2 3).toNatClampNeg a1) 5 ((sA u70 4 (u70.2 3).toNatClampNeg a1).2 3).toNatClampNeg a2) 6 ((sA (sA u70 4 (u70.2 3).toNatClampNeg a1) 5 ((sA u70 4 (u70.2 3).toNatClampNeg a1).2 3).toNatClampNeg a2).2 3).toNatClampNeg a3) 7 ((sA (sA (sA u70 4 (u70.2 3).toNatClampNeg a1) 5 ((sA u70 4 (u70.2 3).toNatClampNeg a1).2 3).toNatClampNeg a2) 6 ((sA (sA u70 4 (u70.2 3).toNatClampNeg a1) 5 ((sA u70 4 (u70.2 3).toNatClampNeg a1).2 3).toNatClampNeg a2).2 3).toNatClampNeg a3).2 3).toNatClampNeg a4).2 3).toNatClampNeg (-1 : Int32)).2 1)) 3 (((sA (sA (sA (sA (sA (sA u70 4 (u70.2 3).toNatClampNeg a1) 5 ((sA u70 4 (u70.2 3).toNatClampNeg a1).2 3).toNatClampNeg a2) 6 ((sA (sA u70 4 (u70.2 3).toNatClampNeg a1) 5 ((sA u70 4 (u70.2 3).toNatClampNeg a1).2 3).toNatClampNeg a2).2 3).toNatClampNeg a3) 7 ((sA (sA (sA u70 4 (u70.2 3).toNatClampNeg a1) 5 ((sA u70 4 (u70.2 3).toNatClampNeg a1).2 3).toNatClampNeg a2) 6 ((sA (sA u70 4 (u70.2 3).toNatClampNeg a1) 5 ((sA u70 4 (u70.2 3).toNatClampNeg a1).2 3).toNatClampNeg a2).2 3).toNatClampNeg a3).2 3).toNatClampNeg a4) 9 ((sA (sA (sA (sA u70 4 (u70.2 3).toNatClampNeg a1) 5 ((sA u70 4 (u70.2 3).toNatClampNeg a1).2 3).toNatClampNeg a2) 6 ((sA (sA u70 4 (u70.2 3).toNatClampNeg a1) 5 ((sA u70 4 (u70.2 3).toNatClampNeg a1).2 3).toNatClampNeg a2).2 3).toNatClampNeg a3) 7 ((sA (sA (sA u70 4 (u70.2 3).toNatClampNeg a1) 5 ((sA u70 4 (u70.2 3).toNatClampNeg a1).2 3).toNatClampNeg a2) 6 ((sA (sA u70 4 (u70.2 3).toNatClampNeg a1) 5 ((sA u70 4 (u70.2 3).toNatClampNeg a1).2 3).toNatClampNeg a2).2 3).toNatClampNeg a3).2 3).toNatClampNeg a4).2 3).toNatClampNeg (-1 : Int32)) 10 ((sA (sA (sA (sA (sA u70 4 (u70.2 3).toNatClampNeg a1) 5 ((sA u70 4 (u70.2 3).toNatClampNeg a1).2 3).toNatClampNeg a2) 6 ((sA (sA u70 4 (u70.2 3).toNatClampNeg a1) 5 ((sA u70 4 (u70.2 3).toNatClampNeg a1).2 3).toNatClampNeg a2).2 3).toNatClampNeg a3) 7 ((sA (sA (sA u70 4 (u70.2 3).toNatClampNeg a1) 5 ((sA u70 4 (u70.2 3).toNatClampNeg a1).2 3).toNatClampNeg a2) 6 ((sA (sA u70 4 (u70.2 3).toNatClampNeg a1) 5 ((sA u70 4 (u70.2 3).toNatClampNeg a1).2 3).toNatClampNeg a2).2 3).toNatClampNeg a3).2 3).toNatClampNeg a4) 9 ((sA (sA (sA (sA u70 4 (u70.2 3).toNatClampNeg a1) 5 ((sA u70 4 (u70.2 3).toNatClampNeg a1).2 3).toNatClampNeg a2) 6 ((sA (sA u70 4 (u70.2 3).toNatClampNeg a1) 5 ((sA u70 4 (u70.2 3).toNatClampNeg a1).2 3).toNatClampNeg a2).2 3).toNatClampNeg a3) 7 ((sA (sA (sA u70 4 (u70.2 3).toNatClampNeg a1) 5 ((sA u70 4 (u70.2 3).toNatClampNeg a1).2 3).toNatClampNeg a2) 6 ((sA (sA u70 4 (u70.2 3).toNatClampNeg a1) 5 ((sA u70 4 (u70.2 3).toNatClampNeg a1).2 3).toNatClampNeg a2).2 3).toNatClampNeg a3).2 3).toNatClampNeg a4).2 3).toNatClampNeg (-1 : Int32)).2 3).toNatClampNeg ((sA (sA (sA (sA (sA u70 4 (u70.2 3).toNatClampNeg a1) 5 ((sA u70 4 (u70.2 3).toNatClampNeg a1).2 3).toNatClampNeg a2) 6 ((sA (sA u70 4 (u70.2 3).toNatClampNeg a1) 5 ((sA u70 4 (u70.2 3).toNatClampNeg a1).2 3).toNatClampNeg a2).2 3).toNatClampNeg a3) 7 ((sA (sA (sA u70 4 (u70.2 3).toNatClampNeg a1) 5 ((sA u70 4 (u70.2 3).toNatClampNeg a1).2 3).toNatClampNeg a2) 6 ((sA (sA u70 4 (u70.2 3).toNatClampNeg a1) 5 ((sA u70 4 (u70.2 3).toNatClampNeg a1).2 3).toNatClampNeg a2).2 3).toNatClampNeg a3).2 3).toNatClampNeg a4) 9 ((sA (sA (sA (sA u70 4 (u70.2 3).toNatClampNeg a1) 5 ((sA u70 4 (u70.2 3).toNatClampNeg a1).2 3).toNatClampNeg a2) 6 ((sA (sA u70 4 (u70.2 3).toNatClampNeg a1) 5 ((sA u70 4 (u70.2 3).toNatClampNeg a1).2 3).toNatClampNeg a2).2 3).toNatClampNeg a3) 7 ((sA (sA (sA u70 4 (u70.2 3).toNatClampNeg a1) 5 ((sA u70 4 (u70.2 3).toNatClampNeg a1).2 3).toNatClampNeg a2) 6 ((sA (sA u70 4 (u70.2 3).toNatClampNeg a1) 5 ((sA u70 4 (u70.2 3).toNatClampNeg a1).2 3).toNatClampNeg a2).2 3).toNatClampNeg a3).2 3).toNatClampNeg a4).2 3).toNatClampNeg (-1 : Int32)).2 1)).2 3) + (1 : Int32))) (fun r153 u153 => (post ((u153.2 3) - (1 : Int32)) u153)))))))))) ∧ (¬ r70 = 0 → (post (0 : Int32) u70))))
def wj_M_unit_49 (xM : St) (a1 : Int32) (a2 : Int32) (a3 : Int32) (a4 : Int32) (post : Int32 → St → Prop) (xM_ : St) (s0_ : Int32) : Prop := (¬ (xM_.2 3) = (24 : Int32) → (wj_M_unit_68 xM a1 a2 a3 a4 post xM_ (0 : Int32) s0_)) ∧ ((xM_.2 3) = (24 : Int32) → (wj_M_unit_68 xM a1 a2 a3 a4 post xM_ (1 : Int32) s0_))
def wj_M_unit_44 (xM : St) (a1 : Int32) (a2 : Int32) (a3 : Int32) (a4 : Int32) (post : Int32 → St → Prop) (xM_ : St) : Prop := wj_M_unit_49 xM a1 a2 a3 a4 post xM_ (1 : Int32)
def wp_M_unit (xM : St) (a1 : Int32) (a2 : Int32) (a3 : Int32) (a4 : Int32) (post : Int32 → St → Prop) : Prop := wp_M_in a1 (0 : Int32) (99999 : Int32) (fun r4 _ => ((r4 = 0 → (wj_M_unit_44 xM a1 a2 a3 a4 post xM)) ∧ (¬ r4 = 0 → (wp_M_in a2 (0 : Int32) (10000 : Int32) (fun r15 _ => ((r15 = 0 → (wj_M_unit_44 xM a1 a2 a3 a4 post xM)) ∧ (¬ r15 = 0 → (wp_M_in a3 (0 : Int32) (10000 : Int32) (fun r26 _ => ((r26 = 0 → (wj_M_unit_44 xM a1 a2 a3 a4 post xM)) ∧ (¬ r26 = 0 → (wp_M_in a4 (0 : Int32) (255 : Int32) (fun r38 _ => ((¬ r38 = 0 → (wj_M_unit_49 xM a1 a2 a3 a4 post xM (0 : Int32))) ∧ (r38 = 0 → (wj_M_unit_44 xM a1 a2 a3 a4 post xM))))))))))))))))
set_option maxHeartbeats 4000000 in
set_option maxRecDepth 100000 in
theorem c_M_unit (l : Launch) (dC : Nat → ClassId) (dI : Nat → Nat → Nat) (cI cZ cL : ClassId) (qM : Nat → Nat) (sz : Nat) (xM : St) (a1 : Int32) (a2 : Int32) (a3 : Int32) (a4 : Int32) (post : Int32 → St → Prop) (hw : wp_M_unit xM a1 a2 a3 a4 post) : Met l y_M_unit w_M_unit ({ frames := 4, cells := 0, slots := 0, locals := 90 } : Room) (va_Pc [.ref (qM 0), .int a1, .int a2, .int a3, .int a4] (xP (dC, dI) vwCl [(cI, .int), (cZ, .boolean), (cL, .long)] (wd_M qM cI cZ cL xM) sz)) (va_Qi post (xB (dC, dI) vwCl [(cI, .int), (cZ, .boolean), (cL, .long)] (va_A (wd_M qM cI cZ cL xM) sz) (fun u => (wd_M qM cI cZ cL u))) (va_A (wd_M qM cI cZ cL xM) sz)) 0 0 (va_A (wd_M qM cI cZ cL xM) sz) := by
  refine x_ofI (cc := b_M_unit) (maxL := 6) (by decide) rfl (Nat.le_of_ble_eq_true rfl) (fun p e s m below meth c A Q hx hb hml hts hown hK hA hP hD hS hret ls hl => ?_)
  have hl : lv_has ls 6 [(0, .ref (qM 0)), (1, .int a1), (2, .int a2), (3, .int a3), (4, .int a4)] := hl
  have jn68 : ∀ (xM_ : St) (s0_ : Int32) (s1_ : Int32) (H : Heap) (locs : List Loc) (ls : Array Slot), wj_M_unit_68 xM a1 a2 a3 a4 post xM_ s0_ s1_ → va_P (dC, dI) vwCl (wd_M qM cI cZ cL xM_) H → va_D A (wd_M qM cI cZ cL xM_) → va_S A s.heap H locs → lv_has ls 6 [(0, .ref (qM 0)), (1, .int a1), (2, .int a2), (3, .int a3), (4, .int a4)] → W p l e (headSpec w_M_unit ({ frames := 4, cells := 0, slots := 0, locals := 90 } : Room)).room s m ([.ref (qM 0), .int a1, .int a2, .int a3, .int a4] : List Value).toArray below meth c H locs 0 0 Q (F0 m 68 ls [.int s0_, .int s1_, .ref (qM 0)]) := by
    intro xM_ s0_ s1_ H locs ls hw hP hD hS hl
    unfold wj_M_unit_68 at hw
    refine lv_iconst (v := (0 : Int32)) hx hb d_M_unit_68 (by decide) ?_
    refine lv_iconst (v := (0 : Int32)) hx hb d_M_unit_69 (by decide) ?_
    refine x_ci (w2 := fun u70 => (wd_M qM cI cZ cL u70)) [0, 1, 2, 3, 4, 5, 6, 7, 8, 9, 10, 11, 12, 13, 14, 15, 16, 17, 18, 19, 20, 21] [] [0, 1, 2, 3, 4, 5, 6, 7, 8, 9, 10, 11, 12, 13, 14, 15, 16, 17, 18, 19, 20, 21] (va_runV (As := [.int s1_, .int s0_, .int (0 : Int32), .int (0 : Int32)]) (rest := []) ⟨hx, hb, hml, hown, hts⟩ (c_M_throwing l dC dI cI cZ cL qM _ xM_ s1_ s0_ (0 : Int32) (0 : Int32) _ hw) (cwV 4 hts (x_gV k_670 k_672 k_10 k_30 k_673) rfl rfl rfl (by decide +kernel) ⟨Nat.le_of_ble_eq_true rfl, Nat.le_of_ble_eq_true rfl⟩) ⟨x_blind, va_recv hK hP (ci := 4) (q0 := 0) rfl rfl, fun U hU hW => x_pre (isC := [0, 1, 2, 3, 4, 5, 6, 7, 8, 9, 10, 11, 12, 13, 14, 15, 16, 17, 18, 19, 20, 21]) hK hP hD rfl rfl hU hW⟩ rfl rfl hl.1 rfl (lv_room (Nat.le_of_ble_eq_true rfl)) d_M_unit_70 ⟨Nat.le_of_ble_eq_true rfl, Nat.le_of_ble_eq_true rfl⟩) hP hD hS hA rfl rfl rfl (by decide) (fun _ => rfl) rfl (fun r70 u70 H locs hw hP hD hS => ?_)
    refine lv_if_eq (tgt := 78) hx hb d_M_unit_73 (by decide) (fun c73 => ?_) (fun c73 => ?_)
    · have hw := hw.1 c73
      refine lv_aload_n hx hb d_M_unit_78 rfl (lv_at hl 0 rfl) ?_
      refine va_get (D := (dC, dI)) (ci := 4) (v := .ref (qM 5)) (C := "ReleaseRowsModel") (T := T_M) (N := 27) hx hb hts in_M hown hK hP 0 rfl rfl 4 (by decide) (hts _ k_580) (fun _ h9 => h9) rfl d_M_unit_79 ?_
      refine lv_aload_n hx hb d_M_unit_82 rfl (lv_at hl 0 rfl) ?_
      refine va_get (D := (dC, dI)) (ci := 4) (v := .int (u70.2 3)) (C := "ReleaseRowsModel") (T := T_M) (N := 27) hx hb hts in_M hown hK hP 0 rfl rfl 3 (by decide) (hts _ k_579) (fun _ h9 => h9) rfl d_M_unit_83 ?_
      refine lv_iload_n hx hb d_M_unit_86 rfl (lv_at hl 1 rfl) ?_
      obtain ⟨h87, hw⟩ := hw
      refine va_iast hx hb hK hP hD hS 1 0 rfl rfl h87 d_M_unit_87 (fun H locs hP hD hS => ?_)
      have hP := wsP_M_M4 hP
      have hD := wsD_M_M4 hD
      refine lv_aload_n hx hb d_M_unit_88 rfl (lv_at hl 0 rfl) ?_
      refine va_get (D := (dC, dI)) (ci := 4) (v := .ref (qM 6)) (C := "ReleaseRowsModel") (T := T_M) (N := 27) hx hb hts in_M hown hK hP 0 rfl rfl 5 (by decide) (hts _ k_581) (fun _ h9 => h9) rfl d_M_unit_89 ?_
      refine lv_aload_n hx hb d_M_unit_92 rfl (lv_at hl 0 rfl) ?_
      refine va_get (D := (dC, dI)) (ci := 4) (v := .int ((sA u70 4 (u70.2 3).toNatClampNeg a1).2 3)) (C := "ReleaseRowsModel") (T := T_M) (N := 27) hx hb hts in_M hown hK hP 0 rfl rfl 3 (by decide) (hts _ k_579) (fun _ h9 => h9) rfl d_M_unit_93 ?_
      refine lv_iload_n hx hb d_M_unit_96 rfl (lv_at hl 2 rfl) ?_
      obtain ⟨h97, hw⟩ := hw
      refine va_iast hx hb hK hP hD hS 2 0 rfl rfl h97 d_M_unit_97 (fun H locs hP hD hS => ?_)
      have hP := wsP_M_M5 hP
      have hD := wsD_M_M5 hD
      refine lv_aload_n hx hb d_M_unit_98 rfl (lv_at hl 0 rfl) ?_
      refine va_get (D := (dC, dI)) (ci := 4) (v := .ref (qM 7)) (C := "ReleaseRowsModel") (T := T_M) (N := 27) hx hb hts in_M hown hK hP 0 rfl rfl 6 (by decide) (hts _ k_582) (fun _ h9 => h9) rfl d_M_unit_99 ?_
      refine lv_aload_n hx hb d_M_unit_102 rfl (lv_at hl 0 rfl) ?_
      refine va_get (D := (dC, dI)) (ci := 4) (v := .int ((sA (sA u70 4 (u70.2 3).toNatClampNeg a1) 5 ((sA u70 4 (u70.2 3).toNatClampNeg a1).2 3).toNatClampNeg a2).2 3)) (C := "ReleaseRowsModel") (T := T_M) (N := 27) hx hb hts in_M hown hK hP 0 rfl rfl 3 (by decide) (hts _ k_579) (fun _ h9 => h9) rfl d_M_unit_103 ?_
      refine lv_iload_n hx hb d_M_unit_106 rfl (lv_at hl 3 rfl) ?_
      obtain ⟨h107, hw⟩ := hw
      refine va_iast hx hb hK hP hD hS 3 0 rfl rfl h107 d_M_unit_107 (fun H locs hP hD hS => ?_)
      have hP := wsP_M_M6 hP
      have hD := wsD_M_M6 hD
      refine lv_aload_n hx hb d_M_unit_108 rfl (lv_at hl 0 rfl) ?_
      refine va_get (D := (dC, dI)) (ci := 4) (v := .ref (qM 8)) (C := "ReleaseRowsModel") (T := T_M) (N := 27) hx hb hts in_M hown hK hP 0 rfl rfl 7 (by decide) (hts _ k_583) (fun _ h9 => h9) rfl d_M_unit_109 ?_
      refine lv_aload_n hx hb d_M_unit_112 rfl (lv_at hl 0 rfl) ?_
      refine va_get (D := (dC, dI)) (ci := 4) (v := .int ((sA (sA (sA u70 4 (u70.2 3).toNatClampNeg a1) 5 ((sA u70 4 (u70.2 3).toNatClampNeg a1).2 3).toNatClampNeg a2) 6 ((sA (sA u70 4 (u70.2 3).toNatClampNeg a1) 5 ((sA u70 4 (u70.2 3).toNatClampNeg a1).2 3).toNatClampNeg a2).2 3).toNatClampNeg a3).2 3)) (C := "ReleaseRowsModel") (T := T_M) (N := 27) hx hb hts in_M hown hK hP 0 rfl rfl 3 (by decide) (hts _ k_579) (fun _ h9 => h9) rfl d_M_unit_113 ?_
      refine lv_iload hx hb d_M_unit_116 (lv_at hl 4 rfl) ?_
      obtain ⟨h118, hw⟩ := hw
      refine va_iast hx hb hK hP hD hS 4 0 rfl rfl h118 d_M_unit_118 (fun H locs hP hD hS => ?_)
      have hP := wsP_M_M7 hP
      have hD := wsD_M_M7 hD
      refine lv_aload_n hx hb d_M_unit_119 rfl (lv_at hl 0 rfl) ?_
      refine va_get (D := (dC, dI)) (ci := 4) (v := .ref (qM 10)) (C := "ReleaseRowsModel") (T := T_M) (N := 27) hx hb hts in_M hown hK hP 0 rfl rfl 9 (by decide) (hts _ k_585) (fun _ h9 => h9) rfl d_M_unit_120 ?_
      refine lv_aload_n hx hb d_M_unit_123 rfl (lv_at hl 0 rfl) ?_
      refine va_get (D := (dC, dI)) (ci := 4) (v := .int ((sA (sA (sA (sA u70 4 (u70.2 3).toNatClampNeg a1) 5 ((sA u70 4 (u70.2 3).toNatClampNeg a1).2 3).toNatClampNeg a2) 6 ((sA (sA u70 4 (u70.2 3).toNatClampNeg a1) 5 ((sA u70 4 (u70.2 3).toNatClampNeg a1).2 3).toNatClampNeg a2).2 3).toNatClampNeg a3) 7 ((sA (sA (sA u70 4 (u70.2 3).toNatClampNeg a1) 5 ((sA u70 4 (u70.2 3).toNatClampNeg a1).2 3).toNatClampNeg a2) 6 ((sA (sA u70 4 (u70.2 3).toNatClampNeg a1) 5 ((sA u70 4 (u70.2 3).toNatClampNeg a1).2 3).toNatClampNeg a2).2 3).toNatClampNeg a3).2 3).toNatClampNeg a4).2 3)) (C := "ReleaseRowsModel") (T := T_M) (N := 27) hx hb hts in_M hown hK hP 0 rfl rfl 3 (by decide) (hts _ k_579) (fun _ h9 => h9) rfl d_M_unit_124 ?_
      refine lv_iconst (v := (-1 : Int32)) hx hb d_M_unit_127 (by decide) ?_
      obtain ⟨h128, hw⟩ := hw
      refine va_iast hx hb hK hP hD hS 6 0 rfl rfl h128 d_M_unit_128 (fun H locs hP hD hS => ?_)
      have hP := wsP_M_M9 hP
      have hD := wsD_M_M9 hD
      refine lv_aload_n hx hb d_M_unit_129 rfl (lv_at hl 0 rfl) ?_
      refine va_get (D := (dC, dI)) (ci := 4) (v := .ref (qM 11)) (C := "ReleaseRowsModel") (T := T_M) (N := 27) hx hb hts in_M hown hK hP 0 rfl rfl 10 (by decide) (hts _ k_586) (fun _ h9 => h9) rfl d_M_unit_130 ?_
      refine lv_aload_n hx hb d_M_unit_133 rfl (lv_at hl 0 rfl) ?_
      refine va_get (D := (dC, dI)) (ci := 4) (v := .int ((sA (sA (sA (sA (sA u70 4 (u70.2 3).toNatClampNeg a1) 5 ((sA u70 4 (u70.2 3).toNatClampNeg a1).2 3).toNatClampNeg a2) 6 ((sA (sA u70 4 (u70.2 3).toNatClampNeg a1) 5 ((sA u70 4 (u70.2 3).toNatClampNeg a1).2 3).toNatClampNeg a2).2 3).toNatClampNeg a3) 7 ((sA (sA (sA u70 4 (u70.2 3).toNatClampNeg a1) 5 ((sA u70 4 (u70.2 3).toNatClampNeg a1).2 3).toNatClampNeg a2) 6 ((sA (sA u70 4 (u70.2 3).toNatClampNeg a1) 5 ((sA u70 4 (u70.2 3).toNatClampNeg a1).2 3).toNatClampNeg a2).2 3).toNatClampNeg a3).2 3).toNatClampNeg a4) 9 ((sA (sA (sA (sA u70 4 (u70.2 3).toNatClampNeg a1) 5 ((sA u70 4 (u70.2 3).toNatClampNeg a1).2 3).toNatClampNeg a2) 6 ((sA (sA u70 4 (u70.2 3).toNatClampNeg a1) 5 ((sA u70 4 (u70.2 3).toNatClampNeg a1).2 3).toNatClampNeg a2).2 3).toNatClampNeg a3) 7 ((sA (sA (sA u70 4 (u70.2 3).toNatClampNeg a1) 5 ((sA u70 4 (u70.2 3).toNatClampNeg a1).2 3).toNatClampNeg a2) 6 ((sA (sA u70 4 (u70.2 3).toNatClampNeg a1) 5 ((sA u70 4 (u70.2 3).toNatClampNeg a1).2 3).toNatClampNeg a2).2 3).toNatClampNeg a3).2 3).toNatClampNeg a4).2 3).toNatClampNeg (-1 : Int32)).2 3)) (C := "ReleaseRowsModel") (T := T_M) (N := 27) hx hb hts in_M hown hK hP 0 rfl rfl 3 (by decide) (hts _ k_579) (fun _ h9 => h9) rfl d_M_unit_134 ?_
      refine lv_aload_n hx hb d_M_unit_137 rfl (lv_at hl 0 rfl) ?_
      refine va_get (D := (dC, dI)) (ci := 4) (v := .int ((sA (sA (sA (sA (sA u70 4 (u70.2 3).toNatClampNeg a1) 5 ((sA u70 4 (u70.2 3).toNatClampNeg a1).2 3).toNatClampNeg a2) 6 ((sA (sA u70 4 (u70.2 3).toNatClampNeg a1) 5 ((sA u70 4 (u70.2 3).toNatClampNeg a1).2 3).toNatClampNeg a2).2 3).toNatClampNeg a3) 7 ((sA (sA (sA u70 4 (u70.2 3).toNatClampNeg a1) 5 ((sA u70 4 (u70.2 3).toNatClampNeg a1).2 3).toNatClampNeg a2) 6 ((sA (sA u70 4 (u70.2 3).toNatClampNeg a1) 5 ((sA u70 4 (u70.2 3).toNatClampNeg a1).2 3).toNatClampNeg a2).2 3).toNatClampNeg a3).2 3).toNatClampNeg a4) 9 ((sA (sA (sA (sA u70 4 (u70.2 3).toNatClampNeg a1) 5 ((sA u70 4 (u70.2 3).toNatClampNeg a1).2 3).toNatClampNeg a2) 6 ((sA (sA u70 4 (u70.2 3).toNatClampNeg a1) 5 ((sA u70 4 (u70.2 3).toNatClampNeg a1).2 3).toNatClampNeg a2).2 3).toNatClampNeg a3) 7 ((sA (sA (sA u70 4 (u70.2 3).toNatClampNeg a1) 5 ((sA u70 4 (u70.2 3).toNatClampNeg a1).2 3).toNatClampNeg a2) 6 ((sA (sA u70 4 (u70.2 3).toNatClampNeg a1) 5 ((sA u70 4 (u70.2 3).toNatClampNeg a1).2 3).toNatClampNeg a2).2 3).toNatClampNeg a3).2 3).toNatClampNeg a4).2 3).toNatClampNeg (-1 : Int32)).2 1)) (C := "ReleaseRowsModel") (T := T_M) (N := 27) hx hb hts in_M hown hK hP 0 rfl rfl 1 (by decide) (hts _ k_577) (fun _ h9 => h9) rfl d_M_unit_138 ?_
      obtain ⟨h141, hw⟩ := hw
      refine va_iast hx hb hK hP hD hS 7 0 rfl rfl h141 d_M_unit_141 (fun H locs hP hD hS => ?_)
      have hP := wsP_M_M10 hP
      have hD := wsD_M_M10 hD
      refine lv_aload_n hx hb d_M_unit_142 rfl (lv_at hl 0 rfl) ?_
      refine lv_dup hx hb d_M_unit_143 rfl ?_
      refine va_get (D := (dC, dI)) (ci := 4) (v := .int ((sA (sA (sA (sA (sA (sA u70 4 (u70.2 3).toNatClampNeg a1) 5 ((sA u70 4 (u70.2 3).toNatClampNeg a1).2 3).toNatClampNeg a2) 6 ((sA (sA u70 4 (u70.2 3).toNatClampNeg a1) 5 ((sA u70 4 (u70.2 3).toNatClampNeg a1).2 3).toNatClampNeg a2).2 3).toNatClampNeg a3) 7 ((sA (sA (sA u70 4 (u70.2 3).toNatClampNeg a1) 5 ((sA u70 4 (u70.2 3).toNatClampNeg a1).2 3).toNatClampNeg a2) 6 ((sA (sA u70 4 (u70.2 3).toNatClampNeg a1) 5 ((sA u70 4 (u70.2 3).toNatClampNeg a1).2 3).toNatClampNeg a2).2 3).toNatClampNeg a3).2 3).toNatClampNeg a4) 9 ((sA (sA (sA (sA u70 4 (u70.2 3).toNatClampNeg a1) 5 ((sA u70 4 (u70.2 3).toNatClampNeg a1).2 3).toNatClampNeg a2) 6 ((sA (sA u70 4 (u70.2 3).toNatClampNeg a1) 5 ((sA u70 4 (u70.2 3).toNatClampNeg a1).2 3).toNatClampNeg a2).2 3).toNatClampNeg a3) 7 ((sA (sA (sA u70 4 (u70.2 3).toNatClampNeg a1) 5 ((sA u70 4 (u70.2 3).toNatClampNeg a1).2 3).toNatClampNeg a2) 6 ((sA (sA u70 4 (u70.2 3).toNatClampNeg a1) 5 ((sA u70 4 (u70.2 3).toNatClampNeg a1).2 3).toNatClampNeg a2).2 3).toNatClampNeg a3).2 3).toNatClampNeg a4).2 3).toNatClampNeg (-1 : Int32)) 10 ((sA (sA (sA (sA (sA u70 4 (u70.2 3).toNatClampNeg a1) 5 ((sA u70 4 (u70.2 3).toNatClampNeg a1).2 3).toNatClampNeg a2) 6 ((sA (sA u70 4 (u70.2 3).toNatClampNeg a1) 5 ((sA u70 4 (u70.2 3).toNatClampNeg a1).2 3).toNatClampNeg a2).2 3).toNatClampNeg a3) 7 ((sA (sA (sA u70 4 (u70.2 3).toNatClampNeg a1) 5 ((sA u70 4 (u70.2 3).toNatClampNeg a1).2 3).toNatClampNeg a2) 6 ((sA (sA u70 4 (u70.2 3).toNatClampNeg a1) 5 ((sA u70 4 (u70.2 3).toNatClampNeg a1).2 3).toNatClampNeg a2).2 3).toNatClampNeg a3).2 3).toNatClampNeg a4) 9 ((sA (sA (sA (sA u70 4 (u70.2 3).toNatClampNeg a1) 5 ((sA u70 4 (u70.2 3).toNatClampNeg a1).2 3).toNatClampNeg a2) 6 ((sA (sA u70 4 (u70.2 3).toNatClampNeg a1) 5 ((sA u70 4 (u70.2 3).toNatClampNeg a1).2 3).toNatClampNeg a2).2 3).toNatClampNeg a3) 7 ((sA (sA (sA u70 4 (u70.2 3).toNatClampNeg a1) 5 ((sA u70 4 (u70.2 3).toNatClampNeg a1).2 3).toNatClampNeg a2) 6 ((sA (sA u70 4 (u70.2 3).toNatClampNeg a1) 5 ((sA u70 4 (u70.2 3).toNatClampNeg a1).2 3).toNatClampNeg a2).2 3).toNatClampNeg a3).2 3).toNatClampNeg a4).2 3).toNatClampNeg (-1 : Int32)).2 3).toNatClampNeg ((sA (sA (sA (sA (sA u70 4 (u70.2 3).toNatClampNeg a1) 5 ((sA u70 4 (u70.2 3).toNatClampNeg a1).2 3).toNatClampNeg a2) 6 ((sA (sA u70 4 (u70.2 3).toNatClampNeg a1) 5 ((sA u70 4 (u70.2 3).toNatClampNeg a1).2 3).toNatClampNeg a2).2 3).toNatClampNeg a3) 7 ((sA (sA (sA u70 4 (u70.2 3).toNatClampNeg a1) 5 ((sA u70 4 (u70.2 3).toNatClampNeg a1).2 3).toNatClampNeg a2) 6 ((sA (sA u70 4 (u70.2 3).toNatClampNeg a1) 5 ((sA u70 4 (u70.2 3).toNatClampNeg a1).2 3).toNatClampNeg a2).2 3).toNatClampNeg a3).2 3).toNatClampNeg a4) 9 ((sA (sA (sA (sA u70 4 (u70.2 3).toNatClampNeg a1) 5 ((sA u70 4 (u70.2 3).toNatClampNeg a1).2 3).toNatClampNeg a2) 6 ((sA (sA u70 4 (u70.2 3).toNatClampNeg a1) 5 ((sA u70 4 (u70.2 3).toNatClampNeg a1).2 3).toNatClampNeg a2).2 3).toNatClampNeg a3) 7 ((sA (sA (sA u70 4 (u70.2 3).toNatClampNeg a1) 5 ((sA u70 4 (u70.2 3).toNatClampNeg a1).2 3).toNatClampNeg a2) 6 ((sA (sA u70 4 (u70.2 3).toNatClampNeg a1) 5 ((sA u70 4 (u70.2 3).toNatClampNeg a1).2 3).toNatClampNeg a2).2 3).toNatClampNeg a3).2 3).toNatClampNeg a4).2 3).toNatClampNeg (-1 : Int32)).2 1)).2 3)) (C := "ReleaseRowsModel") (T := T_M) (N := 27) hx hb hts in_M hown hK hP 0 rfl rfl 3 (by decide) (hts _ k_579) (fun _ h9 => h9) rfl d_M_unit_144 ?_
      refine lv_iconst (v := (1 : Int32)) hx hb d_M_unit_147 (by decide) ?_
      refine lv_iadd hx hb d_M_unit_148 ?_
      refine va_put (D := (dC, dI)) (ci := 4) (v := .int (((sA (sA (sA (sA (sA (sA u70 4 (u70.2 3).toNatClampNeg a1) 5 ((sA u70 4 (u70.2 3).toNatClampNeg a1).2 3).toNatClampNeg a2) 6 ((sA (sA u70 4 (u70.2 3).toNatClampNeg a1) 5 ((sA u70 4 (u70.2 3).toNatClampNeg a1).2 3).toNatClampNeg a2).2 3).toNatClampNeg a3) 7 ((sA (sA (sA u70 4 (u70.2 3).toNatClampNeg a1) 5 ((sA u70 4 (u70.2 3).toNatClampNeg a1).2 3).toNatClampNeg a2) 6 ((sA (sA u70 4 (u70.2 3).toNatClampNeg a1) 5 ((sA u70 4 (u70.2 3).toNatClampNeg a1).2 3).toNatClampNeg a2).2 3).toNatClampNeg a3).2 3).toNatClampNeg a4) 9 ((sA (sA (sA (sA u70 4 (u70.2 3).toNatClampNeg a1) 5 ((sA u70 4 (u70.2 3).toNatClampNeg a1).2 3).toNatClampNeg a2) 6 ((sA (sA u70 4 (u70.2 3).toNatClampNeg a1) 5 ((sA u70 4 (u70.2 3).toNatClampNeg a1).2 3).toNatClampNeg a2).2 3).toNatClampNeg a3) 7 ((sA (sA (sA u70 4 (u70.2 3).toNatClampNeg a1) 5 ((sA u70 4 (u70.2 3).toNatClampNeg a1).2 3).toNatClampNeg a2) 6 ((sA (sA u70 4 (u70.2 3).toNatClampNeg a1) 5 ((sA u70 4 (u70.2 3).toNatClampNeg a1).2 3).toNatClampNeg a2).2 3).toNatClampNeg a3).2 3).toNatClampNeg a4).2 3).toNatClampNeg (-1 : Int32)) 10 ((sA (sA (sA (sA (sA u70 4 (u70.2 3).toNatClampNeg a1) 5 ((sA u70 4 (u70.2 3).toNatClampNeg a1).2 3).toNatClampNeg a2) 6 ((sA (sA u70 4 (u70.2 3).toNatClampNeg a1) 5 ((sA u70 4 (u70.2 3).toNatClampNeg a1).2 3).toNatClampNeg a2).2 3).toNatClampNeg a3) 7 ((sA (sA (sA u70 4 (u70.2 3).toNatClampNeg a1) 5 ((sA u70 4 (u70.2 3).toNatClampNeg a1).2 3).toNatClampNeg a2) 6 ((sA (sA u70 4 (u70.2 3).toNatClampNeg a1) 5 ((sA u70 4 (u70.2 3).toNatClampNeg a1).2 3).toNatClampNeg a2).2 3).toNatClampNeg a3).2 3).toNatClampNeg a4) 9 ((sA (sA (sA (sA u70 4 (u70.2 3).toNatClampNeg a1) 5 ((sA u70 4 (u70.2 3).toNatClampNeg a1).2 3).toNatClampNeg a2) 6 ((sA (sA u70 4 (u70.2 3).toNatClampNeg a1) 5 ((sA u70 4 (u70.2 3).toNatClampNeg a1).2 3).toNatClampNeg a2).2 3).toNatClampNeg a3) 7 ((sA (sA (sA u70 4 (u70.2 3).toNatClampNeg a1) 5 ((sA u70 4 (u70.2 3).toNatClampNeg a1).2 3).toNatClampNeg a2) 6 ((sA (sA u70 4 (u70.2 3).toNatClampNeg a1) 5 ((sA u70 4 (u70.2 3).toNatClampNeg a1).2 3).toNatClampNeg a2).2 3).toNatClampNeg a3).2 3).toNatClampNeg a4).2 3).toNatClampNeg (-1 : Int32)).2 3).toNatClampNeg ((sA (sA (sA (sA (sA u70 4 (u70.2 3).toNatClampNeg a1) 5 ((sA u70 4 (u70.2 3).toNatClampNeg a1).2 3).toNatClampNeg a2) 6 ((sA (sA u70 4 (u70.2 3).toNatClampNeg a1) 5 ((sA u70 4 (u70.2 3).toNatClampNeg a1).2 3).toNatClampNeg a2).2 3).toNatClampNeg a3) 7 ((sA (sA (sA u70 4 (u70.2 3).toNatClampNeg a1) 5 ((sA u70 4 (u70.2 3).toNatClampNeg a1).2 3).toNatClampNeg a2) 6 ((sA (sA u70 4 (u70.2 3).toNatClampNeg a1) 5 ((sA u70 4 (u70.2 3).toNatClampNeg a1).2 3).toNatClampNeg a2).2 3).toNatClampNeg a3).2 3).toNatClampNeg a4) 9 ((sA (sA (sA (sA u70 4 (u70.2 3).toNatClampNeg a1) 5 ((sA u70 4 (u70.2 3).toNatClampNeg a1).2 3).toNatClampNeg a2) 6 ((sA (sA u70 4 (u70.2 3).toNatClampNeg a1) 5 ((sA u70 4 (u70.2 3).toNatClampNeg a1).2 3).toNatClampNeg a2).2 3).toNatClampNeg a3) 7 ((sA (sA (sA u70 4 (u70.2 3).toNatClampNeg a1) 5 ((sA u70 4 (u70.2 3).toNatClampNeg a1).2 3).toNatClampNeg a2) 6 ((sA (sA u70 4 (u70.2 3).toNatClampNeg a1) 5 ((sA u70 4 (u70.2 3).toNatClampNeg a1).2 3).toNatClampNeg a2).2 3).toNatClampNeg a3).2 3).toNatClampNeg a4).2 3).toNatClampNeg (-1 : Int32)).2 1)).2 3) + (1 : Int32))) (ty := .int) (C := "ReleaseRowsModel") (T := T_M) (N := 27) hx hb hts in_M ty_M tyok_M nm_M hown hK hP hD hS 0 rfl rfl 3 (by decide) (hts _ k_579) (fun _ h9 => h9) rfl (by decide +kernel) rfl rfl (Nat.le_of_ble_eq_true rfl) d_M_unit_149 (fun H locs hP hD hS => ?_)
      have hP := wsP_M_M3 hP
      have hD := wsD_M_M3 hD
      refine lv_aload_n hx hb d_M_unit_152 rfl (lv_at hl 0 rfl) ?_
      refine x_ci (w2 := fun u153 => (wd_M qM cI cZ cL u153)) [0, 1, 2, 3, 4, 5, 6, 7, 8, 9, 10, 11, 12, 13, 14, 15, 16, 17, 18, 19, 20, 21] [] [0, 1, 2, 3, 4, 5, 6, 7, 8, 9, 10, 11, 12, 13, 14, 15, 16, 17, 18, 19, 20, 21] (va_runV (As := []) (rest := []) ⟨hx, hb, hml, hown, hts⟩ (c_M_settle l dC dI cI cZ cL qM _ (sF (sA (sA (sA (sA (sA (sA u70 4 (u70.2 3).toNatClampNeg a1) 5 ((sA u70 4 (u70.2 3).toNatClampNeg a1).2 3).toNatClampNeg a2) 6 ((sA (sA u70 4 (u70.2 3).toNatClampNeg a1) 5 ((sA u70 4 (u70.2 3).toNatClampNeg a1).2 3).toNatClampNeg a2).2 3).toNatClampNeg a3) 7 ((sA (sA (sA u70 4 (u70.2 3).toNatClampNeg a1) 5 ((sA u70 4 (u70.2 3).toNatClampNeg a1).2 3).toNatClampNeg a2) 6 ((sA (sA u70 4 (u70.2 3).toNatClampNeg a1) 5 ((sA u70 4 (u70.2 3).toNatClampNeg a1).2 3).toNatClampNeg a2).2 3).toNatClampNeg a3).2 3).toNatClampNeg a4) 9 ((sA (sA (sA (sA u70 4 (u70.2 3).toNatClampNeg a1) 5 ((sA u70 4 (u70.2 3).toNatClampNeg a1).2 3).toNatClampNeg a2) 6 ((sA (sA u70 4 (u70.2 3).toNatClampNeg a1) 5 ((sA u70 4 (u70.2 3).toNatClampNeg a1).2 3).toNatClampNeg a2).2 3).toNatClampNeg a3) 7 ((sA (sA (sA u70 4 (u70.2 3).toNatClampNeg a1) 5 ((sA u70 4 (u70.2 3).toNatClampNeg a1).2 3).toNatClampNeg a2) 6 ((sA (sA u70 4 (u70.2 3).toNatClampNeg a1) 5 ((sA u70 4 (u70.2 3).toNatClampNeg a1).2 3).toNatClampNeg a2).2 3).toNatClampNeg a3).2 3).toNatClampNeg a4).2 3).toNatClampNeg (-1 : Int32)) 10 ((sA (sA (sA (sA (sA u70 4 (u70.2 3).toNatClampNeg a1) 5 ((sA u70 4 (u70.2 3).toNatClampNeg a1).2 3).toNatClampNeg a2) 6 ((sA (sA u70 4 (u70.2 3).toNatClampNeg a1) 5 ((sA u70 4 (u70.2 3).toNatClampNeg a1).2 3).toNatClampNeg a2).2 3).toNatClampNeg a3) 7 ((sA (sA (sA u70 4 (u70.2 3).toNatClampNeg a1) 5 ((sA u70 4 (u70.2 3).toNatClampNeg a1).2 3).toNatClampNeg a2) 6 ((sA (sA u70 4 (u70.2 3).toNatClampNeg a1) 5 ((sA u70 4 (u70.2 3).toNatClampNeg a1).2 3).toNatClampNeg a2).2 3).toNatClampNeg a3).2 3).toNatClampNeg a4) 9 ((sA (sA (sA (sA u70 4 (u70.2 3).toNatClampNeg a1) 5 ((sA u70 4 (u70.2 3).toNatClampNeg a1).2 3).toNatClampNeg a2) 6 ((sA (sA u70 4 (u70.2 3).toNatClampNeg a1) 5 ((sA u70 4 (u70.2 3).toNatClampNeg a1).2 3).toNatClampNeg a2).2 3).toNatClampNeg a3) 7 ((sA (sA (sA u70 4 (u70.2 3).toNatClampNeg a1) 5 ((sA u70 4 (u70.2 3).toNatClampNeg a1).2 3).toNatClampNeg a2) 6 ((sA (sA u70 4 (u70.2 3).toNatClampNeg a1) 5 ((sA u70 4 (u70.2 3).toNatClampNeg a1).2 3).toNatClampNeg a2).2 3).toNatClampNeg a3).2 3).toNatClampNeg a4).2 3).toNatClampNeg (-1 : Int32)).2 3).toNatClampNeg ((sA (sA (sA (sA (sA u70 4 (u70.2 3).toNatClampNeg a1) 5 ((sA u70 4 (u70.2 3).toNatClampNeg a1).2 3).toNatClampNeg a2) 6 ((sA (sA u70 4 (u70.2 3).toNatClampNeg a1) 5 ((sA u70 4 (u70.2 3).toNatClampNeg a1).2 3).toNatClampNeg a2).2 3).toNatClampNeg a3) 7 ((sA (sA (sA u70 4 (u70.2 3).toNatClampNeg a1) 5 ((sA u70 4 (u70.2 3).toNatClampNeg a1).2 3).toNatClampNeg a2) 6 ((sA (sA u70 4 (u70.2 3).toNatClampNeg a1) 5 ((sA u70 4 (u70.2 3).toNatClampNeg a1).2 3).toNatClampNeg a2).2 3).toNatClampNeg a3).2 3).toNatClampNeg a4) 9 ((sA (sA (sA (sA u70 4 (u70.2 3).toNatClampNeg a1) 5 ((sA u70 4 (u70.2 3).toNatClampNeg a1).2 3).toNatClampNeg a2) 6 ((sA (sA u70 4 (u70.2 3).toNatClampNeg a1) 5 ((sA u70 4 (u70.2 3).toNatClampNeg a1).2 3).toNatClampNeg a2).2 3).toNatClampNeg a3) 7 ((sA (sA (sA u70 4 (u70.2 3).toNatClampNeg a1) 5 ((sA u70 4 (u70.2 3).toNatClampNeg a1).2 3).toNatClampNeg a2) 6 ((sA (sA u70 4 (u70.2 3).toNatClampNeg a1) 5 ((sA u70 4 (u70.2 3).toNatClampNeg a1).2 3).toNatClampNeg a2).2 3).toNatClampNeg a3).2 3).toNatClampNeg a4).2 3).toNatClampNeg (-1 : Int32)).2 1)) 3 (((sA (sA (sA (sA (sA (sA u70 4 (u70.2 3).toNatClampNeg a1) 5 ((sA u70 4 (u70.2 3).toNatClampNeg a1).2 3).toNatClampNeg a2) 6 ((sA (sA u70 4 (u70.2 3).toNatClampNeg a1) 5 ((sA u70 4 (u70.2 3).toNatClampNeg a1).2 3).toNatClampNeg a2).2 3).toNatClampNeg a3) 7 ((sA (sA (sA u70 4 (u70.2 3).toNatClampNeg a1) 5 ((sA u70 4 (u70.2 3).toNatClampNeg a1).2 3).toNatClampNeg a2) 6 ((sA (sA u70 4 (u70.2 3).toNatClampNeg a1) 5 ((sA u70 4 (u70.2 3).toNatClampNeg a1).2 3).toNatClampNeg a2).2 3).toNatClampNeg a3).2 3).toNatClampNeg a4) 9 ((sA (sA (sA (sA u70 4 (u70.2 3).toNatClampNeg a1) 5 ((sA u70 4 (u70.2 3).toNatClampNeg a1).2 3).toNatClampNeg a2) 6 ((sA (sA u70 4 (u70.2 3).toNatClampNeg a1) 5 ((sA u70 4 (u70.2 3).toNatClampNeg a1).2 3).toNatClampNeg a2).2 3).toNatClampNeg a3) 7 ((sA (sA (sA u70 4 (u70.2 3).toNatClampNeg a1) 5 ((sA u70 4 (u70.2 3).toNatClampNeg a1).2 3).toNatClampNeg a2) 6 ((sA (sA u70 4 (u70.2 3).toNatClampNeg a1) 5 ((sA u70 4 (u70.2 3).toNatClampNeg a1).2 3).toNatClampNeg a2).2 3).toNatClampNeg a3).2 3).toNatClampNeg a4).2 3).toNatClampNeg (-1 : Int32)) 10 ((sA (sA (sA (sA (sA u70 4 (u70.2 3).toNatClampNeg a1) 5 ((sA u70 4 (u70.2 3).toNatClampNeg a1).2 3).toNatClampNeg a2) 6 ((sA (sA u70 4 (u70.2 3).toNatClampNeg a1) 5 ((sA u70 4 (u70.2 3).toNatClampNeg a1).2 3).toNatClampNeg a2).2 3).toNatClampNeg a3) 7 ((sA (sA (sA u70 4 (u70.2 3).toNatClampNeg a1) 5 ((sA u70 4 (u70.2 3).toNatClampNeg a1).2 3).toNatClampNeg a2) 6 ((sA (sA u70 4 (u70.2 3).toNatClampNeg a1) 5 ((sA u70 4 (u70.2 3).toNatClampNeg a1).2 3).toNatClampNeg a2).2 3).toNatClampNeg a3).2 3).toNatClampNeg a4) 9 ((sA (sA (sA (sA u70 4 (u70.2 3).toNatClampNeg a1) 5 ((sA u70 4 (u70.2 3).toNatClampNeg a1).2 3).toNatClampNeg a2) 6 ((sA (sA u70 4 (u70.2 3).toNatClampNeg a1) 5 ((sA u70 4 (u70.2 3).toNatClampNeg a1).2 3).toNatClampNeg a2).2 3).toNatClampNeg a3) 7 ((sA (sA (sA u70 4 (u70.2 3).toNatClampNeg a1) 5 ((sA u70 4 (u70.2 3).toNatClampNeg a1).2 3).toNatClampNeg a2) 6 ((sA (sA u70 4 (u70.2 3).toNatClampNeg a1) 5 ((sA u70 4 (u70.2 3).toNatClampNeg a1).2 3).toNatClampNeg a2).2 3).toNatClampNeg a3).2 3).toNatClampNeg a4).2 3).toNatClampNeg (-1 : Int32)).2 3).toNatClampNeg ((sA (sA (sA (sA (sA u70 4 (u70.2 3).toNatClampNeg a1) 5 ((sA u70 4 (u70.2 3).toNatClampNeg a1).2 3).toNatClampNeg a2) 6 ((sA (sA u70 4 (u70.2 3).toNatClampNeg a1) 5 ((sA u70 4 (u70.2 3).toNatClampNeg a1).2 3).toNatClampNeg a2).2 3).toNatClampNeg a3) 7 ((sA (sA (sA u70 4 (u70.2 3).toNatClampNeg a1) 5 ((sA u70 4 (u70.2 3).toNatClampNeg a1).2 3).toNatClampNeg a2) 6 ((sA (sA u70 4 (u70.2 3).toNatClampNeg a1) 5 ((sA u70 4 (u70.2 3).toNatClampNeg a1).2 3).toNatClampNeg a2).2 3).toNatClampNeg a3).2 3).toNatClampNeg a4) 9 ((sA (sA (sA (sA u70 4 (u70.2 3).toNatClampNeg a1) 5 ((sA u70 4 (u70.2 3).toNatClampNeg a1).2 3).toNatClampNeg a2) 6 ((sA (sA u70 4 (u70.2 3).toNatClampNeg a1) 5 ((sA u70 4 (u70.2 3).toNatClampNeg a1).2 3).toNatClampNeg a2).2 3).toNatClampNeg a3) 7 ((sA (sA (sA u70 4 (u70.2 3).toNatClampNeg a1) 5 ((sA u70 4 (u70.2 3).toNatClampNeg a1).2 3).toNatClampNeg a2) 6 ((sA (sA u70 4 (u70.2 3).toNatClampNeg a1) 5 ((sA u70 4 (u70.2 3).toNatClampNeg a1).2 3).toNatClampNeg a2).2 3).toNatClampNeg a3).2 3).toNatClampNeg a4).2 3).toNatClampNeg (-1 : Int32)).2 1)).2 3) + (1 : Int32))) _ hw) (cwV 0 hts (x_gV k_674 k_676 k_11 k_30 k_677) rfl rfl rfl (by decide +kernel) ⟨Nat.le_of_ble_eq_true rfl, Nat.le_of_ble_eq_true rfl⟩) ⟨x_blind, va_recv hK hP (ci := 4) (q0 := 0) rfl rfl, fun U hU hW => x_pre (isC := [0, 1, 2, 3, 4, 5, 6, 7, 8, 9, 10, 11, 12, 13, 14, 15, 16, 17, 18, 19, 20, 21]) hK hP hD rfl rfl hU hW⟩ rfl rfl hl.1 rfl (lv_room (Nat.le_of_ble_eq_true rfl)) d_M_unit_153 ⟨Nat.le_of_ble_eq_true rfl, Nat.le_of_ble_eq_true rfl⟩) hP hD hS hA rfl rfl rfl (by decide) (fun _ => rfl) rfl (fun r153 u153 H locs hw hP hD hS => ?_)
      refine lv_pop hx hb d_M_unit_156 rfl ?_
      refine lv_aload_n hx hb d_M_unit_157 rfl (lv_at hl 0 rfl) ?_
      refine va_get (D := (dC, dI)) (ci := 4) (v := .int (u153.2 3)) (C := "ReleaseRowsModel") (T := T_M) (N := 27) hx hb hts in_M hown hK hP 0 rfl rfl 3 (by decide) (hts _ k_579) (fun _ h9 => h9) rfl d_M_unit_158 ?_
      refine lv_iconst (v := (1 : Int32)) hx hb d_M_unit_161 (by decide) ?_
      refine lv_isub hx hb d_M_unit_162 ?_
      exact hret ((u153.2 3) - (1 : Int32)) u153 _ _ _ _ _ _ rfl hw hP hD hS (Nat.le_of_ble_eq_true rfl) (Nat.le_of_ble_eq_true rfl) d_M_unit_163
    · have hw := hw.2 c73
      refine lv_iconst (v := (0 : Int32)) hx hb d_M_unit_76 (by decide) ?_
      exact hret (0 : Int32) u70 _ _ _ _ _ _ rfl hw hP hD hS (Nat.le_of_ble_eq_true rfl) (Nat.le_of_ble_eq_true rfl) d_M_unit_77
  have jn49 : ∀ (xM_ : St) (s0_ : Int32) (H : Heap) (locs : List Loc) (ls : Array Slot), wj_M_unit_49 xM a1 a2 a3 a4 post xM_ s0_ → va_P (dC, dI) vwCl (wd_M qM cI cZ cL xM_) H → va_D A (wd_M qM cI cZ cL xM_) → va_S A s.heap H locs → lv_has ls 6 [(0, .ref (qM 0)), (1, .int a1), (2, .int a2), (3, .int a3), (4, .int a4)] → W p l e (headSpec w_M_unit ({ frames := 4, cells := 0, slots := 0, locals := 90 } : Room)).room s m ([.ref (qM 0), .int a1, .int a2, .int a3, .int a4] : List Value).toArray below meth c H locs 0 0 Q (F0 m 49 ls [.int s0_]) := by
    intro xM_ s0_ H locs ls hw hP hD hS hl
    unfold wj_M_unit_49 at hw
    refine lv_istore (lv' := [(5, .int s0_), (0, .ref (qM 0)), (1, .int a1), (2, .int a2), (3, .int a3), (4, .int a4)]) hx hb d_M_unit_49 hl (by decide) rfl (fun ls hl => ?_)
    refine lv_aload_n hx hb d_M_unit_51 rfl (lv_at hl 1 rfl) ?_
    refine lv_iload hx hb d_M_unit_52 (lv_at hl 0 rfl) ?_
    refine lv_aload_n hx hb d_M_unit_54 rfl (lv_at hl 1 rfl) ?_
    refine va_get (D := (dC, dI)) (ci := 4) (v := .int (xM_.2 3)) (C := "ReleaseRowsModel") (T := T_M) (N := 27) hx hb hts in_M hown hK hP 0 rfl rfl 3 (by decide) (hts _ k_579) (fun _ h9 => h9) rfl d_M_unit_55 ?_
    refine lv_bipush (v := (24 : Int32)) hx hb d_M_unit_58 (by decide) ?_
    refine lv_icmp_ne (tgt := 67) hx hb d_M_unit_60 (by decide) (fun c60 => ?_) (fun c60 => ?_)
    · have hw := hw.1 c60
      refine lv_iconst (v := (0 : Int32)) hx hb d_M_unit_67 (by decide) ?_
      exact jn68 xM_ (0 : Int32) s0_ _ _ _ hw hP hD hS (lv_sub hl [1, 2, 3, 4, 5] rfl)
    · have hw := hw.2 c60
      refine lv_iconst (v := (1 : Int32)) hx hb d_M_unit_63 (by decide) ?_
      refine lv_goto (tgt := 68) hx hb d_M_unit_64 (by decide) ?_
      exact jn68 xM_ (1 : Int32) s0_ _ _ _ hw hP hD hS (lv_sub hl [1, 2, 3, 4, 5] rfl)
  have jn44 : ∀ (xM_ : St) (H : Heap) (locs : List Loc) (ls : Array Slot), wj_M_unit_44 xM a1 a2 a3 a4 post xM_ → va_P (dC, dI) vwCl (wd_M qM cI cZ cL xM_) H → va_D A (wd_M qM cI cZ cL xM_) → va_S A s.heap H locs → lv_has ls 6 [(0, .ref (qM 0)), (1, .int a1), (2, .int a2), (3, .int a3), (4, .int a4)] → W p l e (headSpec w_M_unit ({ frames := 4, cells := 0, slots := 0, locals := 90 } : Room)).room s m ([.ref (qM 0), .int a1, .int a2, .int a3, .int a4] : List Value).toArray below meth c H locs 0 0 Q (F0 m 44 ls []) := by
    intro xM_ H locs ls hw hP hD hS hl
    unfold wj_M_unit_44 at hw
    refine lv_iconst (v := (1 : Int32)) hx hb d_M_unit_44 (by decide) ?_
    refine lv_goto (tgt := 49) hx hb d_M_unit_45 (by decide) ?_
    exact jn49 xM_ (1 : Int32) _ _ _ hw hP hD hS hl
  unfold wp_M_unit at hw
  refine lv_iload_n hx hb d_M_unit_0 rfl (lv_at hl 1 rfl) ?_
  refine lv_iconst (v := (0 : Int32)) hx hb d_M_unit_1 (by decide) ?_
  refine lv_ldc (v := (99999 : Int32)) hx hb hown (hts _ k_666) d_M_unit_2 ?_
  refine x_ci (w2 := fun _ => (wd_M qM cI cZ cL xM)) [] [0, 1, 2, 3, 4, 5, 6, 7, 8, 9, 10, 11, 12, 13, 14, 15, 16, 17, 18, 19, 20, 21] [0, 1, 2, 3, 4, 5, 6, 7, 8, 9, 10, 11, 12, 13, 14, 15, 16, 17, 18, 19, 20, 21] (va_runS (As := [.int a1, .int (0 : Int32), .int (99999 : Int32)]) (rest := []) ⟨hx, hb, hml, hown, hts⟩ (c_M_in l dC dI cI cZ cL  _ a1 (0 : Int32) (99999 : Int32) _ hw) (cwS 3 hts (x_gS k_667 k_668 k_30 k_669) rfl rfl rfl (by decide +kernel) ⟨Nat.le_of_ble_eq_true rfl, Nat.le_of_ble_eq_true rfl⟩) ⟨x_blind, fun U hU hW => x_pre (isC := []) hK hP hD rfl rfl hU hW⟩ rfl rfl hl.1 rfl (lv_room (Nat.le_of_ble_eq_true rfl)) d_M_unit_4 ⟨Nat.le_of_ble_eq_true rfl, Nat.le_of_ble_eq_true rfl⟩) hP hD hS hA rfl rfl rfl (by decide) (fun _ => rfl) rfl (fun r4 _ H locs hw hP hD hS => ?_)
  refine lv_if_eq (tgt := 44) hx hb d_M_unit_7 (by decide) (fun c7 => ?_) (fun c7 => ?_)
  · have hw := hw.1 c7
    exact jn44 xM _ _ _ hw hP hD hS hl
  · have hw := hw.2 c7
    refine lv_iload_n hx hb d_M_unit_10 rfl (lv_at hl 2 rfl) ?_
    refine lv_iconst (v := (0 : Int32)) hx hb d_M_unit_11 (by decide) ?_
    refine lv_sipush (v := (10000 : Int32)) hx hb d_M_unit_12 (by decide) ?_
    refine x_ci (w2 := fun _ => (wd_M qM cI cZ cL xM)) [] [0, 1, 2, 3, 4, 5, 6, 7, 8, 9, 10, 11, 12, 13, 14, 15, 16, 17, 18, 19, 20, 21] [0, 1, 2, 3, 4, 5, 6, 7, 8, 9, 10, 11, 12, 13, 14, 15, 16, 17, 18, 19, 20, 21] (va_runS (As := [.int a2, .int (0 : Int32), .int (10000 : Int32)]) (rest := []) ⟨hx, hb, hml, hown, hts⟩ (c_M_in l dC dI cI cZ cL  _ a2 (0 : Int32) (10000 : Int32) _ hw) (cwS 3 hts (x_gS k_667 k_668 k_30 k_669) rfl rfl rfl (by decide +kernel) ⟨Nat.le_of_ble_eq_true rfl, Nat.le_of_ble_eq_true rfl⟩) ⟨x_blind, fun U hU hW => x_pre (isC := []) hK hP hD rfl rfl hU hW⟩ rfl rfl hl.1 rfl (lv_room (Nat.le_of_ble_eq_true rfl)) d_M_unit_15 ⟨Nat.le_of_ble_eq_true rfl, Nat.le_of_ble_eq_true rfl⟩) hP hD hS hA rfl rfl rfl (by decide) (fun _ => rfl) rfl (fun r15 _ H locs hw hP hD hS => ?_)
    refine lv_if_eq (tgt := 44) hx hb d_M_unit_18 (by decide) (fun c18 => ?_) (fun c18 => ?_)
    · have hw := hw.1 c18
      exact jn44 xM _ _ _ hw hP hD hS hl
    · have hw := hw.2 c18
      refine lv_iload_n hx hb d_M_unit_21 rfl (lv_at hl 3 rfl) ?_
      refine lv_iconst (v := (0 : Int32)) hx hb d_M_unit_22 (by decide) ?_
      refine lv_sipush (v := (10000 : Int32)) hx hb d_M_unit_23 (by decide) ?_
      refine x_ci (w2 := fun _ => (wd_M qM cI cZ cL xM)) [] [0, 1, 2, 3, 4, 5, 6, 7, 8, 9, 10, 11, 12, 13, 14, 15, 16, 17, 18, 19, 20, 21] [0, 1, 2, 3, 4, 5, 6, 7, 8, 9, 10, 11, 12, 13, 14, 15, 16, 17, 18, 19, 20, 21] (va_runS (As := [.int a3, .int (0 : Int32), .int (10000 : Int32)]) (rest := []) ⟨hx, hb, hml, hown, hts⟩ (c_M_in l dC dI cI cZ cL  _ a3 (0 : Int32) (10000 : Int32) _ hw) (cwS 3 hts (x_gS k_667 k_668 k_30 k_669) rfl rfl rfl (by decide +kernel) ⟨Nat.le_of_ble_eq_true rfl, Nat.le_of_ble_eq_true rfl⟩) ⟨x_blind, fun U hU hW => x_pre (isC := []) hK hP hD rfl rfl hU hW⟩ rfl rfl hl.1 rfl (lv_room (Nat.le_of_ble_eq_true rfl)) d_M_unit_26 ⟨Nat.le_of_ble_eq_true rfl, Nat.le_of_ble_eq_true rfl⟩) hP hD hS hA rfl rfl rfl (by decide) (fun _ => rfl) rfl (fun r26 _ H locs hw hP hD hS => ?_)
      refine lv_if_eq (tgt := 44) hx hb d_M_unit_29 (by decide) (fun c29 => ?_) (fun c29 => ?_)
      · have hw := hw.1 c29
        exact jn44 xM _ _ _ hw hP hD hS hl
      · have hw := hw.2 c29
        refine lv_iload hx hb d_M_unit_32 (lv_at hl 4 rfl) ?_
        refine lv_iconst (v := (0 : Int32)) hx hb d_M_unit_34 (by decide) ?_
        refine lv_sipush (v := (255 : Int32)) hx hb d_M_unit_35 (by decide) ?_
        refine x_ci (w2 := fun _ => (wd_M qM cI cZ cL xM)) [] [0, 1, 2, 3, 4, 5, 6, 7, 8, 9, 10, 11, 12, 13, 14, 15, 16, 17, 18, 19, 20, 21] [0, 1, 2, 3, 4, 5, 6, 7, 8, 9, 10, 11, 12, 13, 14, 15, 16, 17, 18, 19, 20, 21] (va_runS (As := [.int a4, .int (0 : Int32), .int (255 : Int32)]) (rest := []) ⟨hx, hb, hml, hown, hts⟩ (c_M_in l dC dI cI cZ cL  _ a4 (0 : Int32) (255 : Int32) _ hw) (cwS 3 hts (x_gS k_667 k_668 k_30 k_669) rfl rfl rfl (by decide +kernel) ⟨Nat.le_of_ble_eq_true rfl, Nat.le_of_ble_eq_true rfl⟩) ⟨x_blind, fun U hU hW => x_pre (isC := []) hK hP hD rfl rfl hU hW⟩ rfl rfl hl.1 rfl (lv_room (Nat.le_of_ble_eq_true rfl)) d_M_unit_38 ⟨Nat.le_of_ble_eq_true rfl, Nat.le_of_ble_eq_true rfl⟩) hP hD hS hA rfl rfl rfl (by decide) (fun _ => rfl) rfl (fun r38 _ H locs hw hP hD hS => ?_)
        refine lv_if_ne (tgt := 48) hx hb d_M_unit_41 (by decide) (fun c41 => ?_) (fun c41 => ?_)
        · have hw := hw.1 c41
          refine lv_iconst (v := (0 : Int32)) hx hb d_M_unit_48 (by decide) ?_
          exact jn49 xM (0 : Int32) _ _ _ hw hP hD hS hl
        · have hw := hw.2 c41
          exact jn44 xM _ _ _ hw hP hD hS hl

def wj_M_home_29 (xM : St) (a1 : Int32) (a2 : Int32) (post : St → Prop) (xM_ : St) (s0_ : Int32) (s1_ : Int32) : Prop := wp_M_throwing xM_ s1_ s0_ (0 : Int32) (0 : Int32) (fun r31 u31 => ((r31 = 0 → (vp_in a1 24 ∧ (post (sA u31 4 a1.toNatClampNeg a2)))) ∧ (¬ r31 = 0 → (post u31))))
def wj_M_home_14 (xM : St) (a1 : Int32) (a2 : Int32) (post : St → Prop) (xM_ : St) (s0_ : Int32) : Prop := wp_M_in a2 (0 : Int32) (99999 : Int32) (fun r18 _ => ((¬ r18 = 0 → (wj_M_home_29 xM a1 a2 post xM_ (0 : Int32) s0_)) ∧ (r18 = 0 → (wj_M_home_29 xM a1 a2 post xM_ (1 : Int32) s0_))))
def wp_M_home (xM : St) (a1 : Int32) (a2 : Int32) (post : St → Prop) : Prop := wp_M_isUnit xM a1 (fun r3 _ => ((¬ r3 = 0 → (wj_M_home_14 xM a1 a2 post xM (0 : Int32))) ∧ (r3 = 0 → (wj_M_home_14 xM a1 a2 post xM (1 : Int32)))))
set_option maxHeartbeats 4000000 in
set_option maxRecDepth 100000 in
theorem c_M_home (l : Launch) (dC : Nat → ClassId) (dI : Nat → Nat → Nat) (cI cZ cL : ClassId) (qM : Nat → Nat) (sz : Nat) (xM : St) (a1 : Int32) (a2 : Int32) (post : St → Prop) (hw : wp_M_home xM a1 a2 post) : Met l y_M_home w_M_home ({ frames := 2, cells := 0, slots := 0, locals := 43 } : Room) (va_Pc [.ref (qM 0), .int a1, .int a2] (xP (dC, dI) vwCl [(cI, .int), (cZ, .boolean), (cL, .long)] (wd_M qM cI cZ cL xM) sz)) (va_Qv post (xB (dC, dI) vwCl [(cI, .int), (cZ, .boolean), (cL, .long)] (va_A (wd_M qM cI cZ cL xM) sz) (fun u => (wd_M qM cI cZ cL u))) (va_A (wd_M qM cI cZ cL xM) sz)) 0 0 (va_A (wd_M qM cI cZ cL xM) sz) := by
  refine x_ofV (cc := b_M_home) (maxL := 3) (by decide) rfl (Nat.le_of_ble_eq_true rfl) (fun p e s m below meth c A Q hx hb hml hts hown hin hK hA hP hD hS hret ls hl => ?_)
  have hl : lv_has ls 3 [(0, .ref (qM 0)), (1, .int a1), (2, .int a2)] := hl
  have jn29 : ∀ (xM_ : St) (s0_ : Int32) (s1_ : Int32) (H : Heap) (locs : List Loc) (ls : Array Slot), wj_M_home_29 xM a1 a2 post xM_ s0_ s1_ → va_P (dC, dI) vwCl (wd_M qM cI cZ cL xM_) H → va_D A (wd_M qM cI cZ cL xM_) → va_S A s.heap H locs → lv_has ls 3 [(0, .ref (qM 0)), (1, .int a1), (2, .int a2)] → W p l e (headSpec w_M_home ({ frames := 2, cells := 0, slots := 0, locals := 43 } : Room)).room s m ([.ref (qM 0), .int a1, .int a2] : List Value).toArray below meth c H locs 0 0 Q (F0 m 29 ls [.int s0_, .int s1_, .ref (qM 0)]) := by
    intro xM_ s0_ s1_ H locs ls hw hP hD hS hl
    unfold wj_M_home_29 at hw
    refine lv_iconst (v := (0 : Int32)) hx hb d_M_home_29 (by decide) ?_
    refine lv_iconst (v := (0 : Int32)) hx hb d_M_home_30 (by decide) ?_
    refine x_ci (w2 := fun u31 => (wd_M qM cI cZ cL u31)) [0, 1, 2, 3, 4, 5, 6, 7, 8, 9, 10, 11, 12, 13, 14, 15, 16, 17, 18, 19, 20, 21] [] [0, 1, 2, 3, 4, 5, 6, 7, 8, 9, 10, 11, 12, 13, 14, 15, 16, 17, 18, 19, 20, 21] (va_runV (As := [.int s1_, .int s0_, .int (0 : Int32), .int (0 : Int32)]) (rest := []) ⟨hx, hb, hml, hown, hts⟩ (c_M_throwing l dC dI cI cZ cL qM _ xM_ s1_ s0_ (0 : Int32) (0 : Int32) _ hw) (cwV 4 hts (x_gV k_670 k_672 k_10 k_30 k_673) rfl rfl rfl (by decide +kernel) ⟨Nat.le_of_ble_eq_true rfl, Nat.le_of_ble_eq_true rfl⟩) ⟨x_blind, va_recv hK hP (ci := 4) (q0 := 0) rfl rfl, fun U hU hW => x_pre (isC := [0, 1, 2, 3, 4, 5, 6, 7, 8, 9, 10, 11, 12, 13, 14, 15, 16, 17, 18, 19, 20, 21]) hK hP hD rfl rfl hU hW⟩ rfl rfl hl.1 rfl (lv_room (Nat.le_of_ble_eq_true rfl)) d_M_home_31 ⟨Nat.le_of_ble_eq_true rfl, Nat.le_of_ble_eq_true rfl⟩) hP hD hS hA rfl rfl rfl (by decide) (fun _ => rfl) rfl (fun r31 u31 H locs hw hP hD hS => ?_)
    refine lv_if_eq (tgt := 38) hx hb d_M_home_34 (by decide) (fun c34 => ?_) (fun c34 => ?_)
    · have hw := hw.1 c34
      refine lv_aload_n hx hb d_M_home_38 rfl (lv_at hl 0 rfl) ?_
      refine va_get (D := (dC, dI)) (ci := 4) (v := .ref (qM 5)) (C := "ReleaseRowsModel") (T := T_M) (N := 27) hx hb hts in_M hown hK hP 0 rfl rfl 4 (by decide) (hts _ k_580) (fun _ h9 => h9) rfl d_M_home_39 ?_
      refine lv_iload_n hx hb d_M_home_42 rfl (lv_at hl 1 rfl) ?_
      refine lv_iload_n hx hb d_M_home_43 rfl (lv_at hl 2 rfl) ?_
      obtain ⟨h44, hw⟩ := hw
      refine va_iast hx hb hK hP hD hS 1 0 rfl rfl h44 d_M_home_44 (fun H locs hP hD hS => ?_)
      have hP := wsP_M_M4 hP
      have hD := wsD_M_M4 hD
      exact hret (sA u31 4 a1.toNatClampNeg a2) _ _ _ _ _ _ hw hP hD hS (Nat.le_of_ble_eq_true rfl) (Nat.le_of_ble_eq_true rfl) d_M_home_45
    · have hw := hw.2 c34
      exact hret u31 _ _ _ _ _ _ hw hP hD hS (Nat.le_of_ble_eq_true rfl) (Nat.le_of_ble_eq_true rfl) d_M_home_37
  have jn14 : ∀ (xM_ : St) (s0_ : Int32) (H : Heap) (locs : List Loc) (ls : Array Slot), wj_M_home_14 xM a1 a2 post xM_ s0_ → va_P (dC, dI) vwCl (wd_M qM cI cZ cL xM_) H → va_D A (wd_M qM cI cZ cL xM_) → va_S A s.heap H locs → lv_has ls 3 [(0, .ref (qM 0)), (1, .int a1), (2, .int a2)] → W p l e (headSpec w_M_home ({ frames := 2, cells := 0, slots := 0, locals := 43 } : Room)).room s m ([.ref (qM 0), .int a1, .int a2] : List Value).toArray below meth c H locs 0 0 Q (F0 m 14 ls [.int s0_, .ref (qM 0)]) := by
    intro xM_ s0_ H locs ls hw hP hD hS hl
    unfold wj_M_home_14 at hw
    refine lv_iload_n hx hb d_M_home_14 rfl (lv_at hl 2 rfl) ?_
    refine lv_iconst (v := (0 : Int32)) hx hb d_M_home_15 (by decide) ?_
    refine lv_ldc (v := (99999 : Int32)) hx hb hown (hts _ k_666) d_M_home_16 ?_
    refine x_ci (w2 := fun _ => (wd_M qM cI cZ cL xM_)) [] [0, 1, 2, 3, 4, 5, 6, 7, 8, 9, 10, 11, 12, 13, 14, 15, 16, 17, 18, 19, 20, 21] [0, 1, 2, 3, 4, 5, 6, 7, 8, 9, 10, 11, 12, 13, 14, 15, 16, 17, 18, 19, 20, 21] (va_runS (As := [.int a2, .int (0 : Int32), .int (99999 : Int32)]) (rest := [.int s0_, .ref (qM 0)]) ⟨hx, hb, hml, hown, hts⟩ (c_M_in l dC dI cI cZ cL  _ a2 (0 : Int32) (99999 : Int32) _ hw) (cwS 3 hts (x_gS k_667 k_668 k_30 k_669) rfl rfl rfl (by decide +kernel) ⟨Nat.le_of_ble_eq_true rfl, Nat.le_of_ble_eq_true rfl⟩) ⟨x_blind, fun U hU hW => x_pre (isC := []) hK hP hD rfl rfl hU hW⟩ rfl rfl hl.1 rfl (lv_room (Nat.le_of_ble_eq_true rfl)) d_M_home_18 ⟨Nat.le_of_ble_eq_true rfl, Nat.le_of_ble_eq_true rfl⟩) hP hD hS hA rfl rfl rfl (by decide) (fun _ => rfl) rfl (fun r18 _ H locs hw hP hD hS => ?_)
    refine lv_if_ne (tgt := 28) hx hb d_M_home_21 (by decide) (fun c21 => ?_) (fun c21 => ?_)
    · have hw := hw.1 c21
      refine lv_iconst (v := (0 : Int32)) hx hb d_M_home_28 (by decide) ?_
      exact jn29 xM_ (0 : Int32) s0_ _ _ _ hw hP hD hS hl
    · have hw := hw.2 c21
      refine lv_iconst (v := (1 : Int32)) hx hb d_M_home_24 (by decide) ?_
      refine lv_goto (tgt := 29) hx hb d_M_home_25 (by decide) ?_
      exact jn29 xM_ (1 : Int32) s0_ _ _ _ hw hP hD hS hl
  unfold wp_M_home at hw
  refine lv_aload_n hx hb d_M_home_0 rfl (lv_at hl 0 rfl) ?_
  refine lv_aload_n hx hb d_M_home_1 rfl (lv_at hl 0 rfl) ?_
  refine lv_iload_n hx hb d_M_home_2 rfl (lv_at hl 1 rfl) ?_
  refine x_ci (w2 := fun _ => (wd_M qM cI cZ cL xM)) [0, 1, 2, 3, 4, 5, 6, 7, 8, 9, 10, 11, 12, 13, 14, 15, 16, 17, 18, 19, 20, 21] [] [0, 1, 2, 3, 4, 5, 6, 7, 8, 9, 10, 11, 12, 13, 14, 15, 16, 17, 18, 19, 20, 21] (va_runV (As := [.int a1]) (rest := [.ref (qM 0)]) ⟨hx, hb, hml, hown, hts⟩ (c_M_isUnit l dC dI cI cZ cL qM _ xM a1 _ hw) (cwV 1 hts (x_gV k_718 k_720 k_21 k_30 k_721) rfl rfl rfl (by decide +kernel) ⟨Nat.le_of_ble_eq_true rfl, Nat.le_of_ble_eq_true rfl⟩) ⟨x_blind, va_recv hK hP (ci := 4) (q0 := 0) rfl rfl, fun U hU hW => x_pre (isC := [0, 1, 2, 3, 4, 5, 6, 7, 8, 9, 10, 11, 12, 13, 14, 15, 16, 17, 18, 19, 20, 21]) hK hP hD rfl rfl hU hW⟩ rfl rfl hl.1 rfl (lv_room (Nat.le_of_ble_eq_true rfl)) d_M_home_3 ⟨Nat.le_of_ble_eq_true rfl, Nat.le_of_ble_eq_true rfl⟩) hP hD hS hA rfl rfl rfl (by decide) (fun _ => rfl) rfl (fun r3 _ H locs hw hP hD hS => ?_)
  refine lv_if_ne (tgt := 13) hx hb d_M_home_6 (by decide) (fun c6 => ?_) (fun c6 => ?_)
  · have hw := hw.1 c6
    refine lv_iconst (v := (0 : Int32)) hx hb d_M_home_13 (by decide) ?_
    exact jn14 xM (0 : Int32) _ _ _ hw hP hD hS hl
  · have hw := hw.2 c6
    refine lv_iconst (v := (1 : Int32)) hx hb d_M_home_9 (by decide) ?_
    refine lv_goto (tgt := 14) hx hb d_M_home_10 (by decide) ?_
    exact jn14 xM (1 : Int32) _ _ _ hw hP hD hS hl

def wj_M_span_16 (xM : St) (a1 : Int32) (post : St → Prop) (xM_ : St) (s0_ : Int32) : Prop := wp_M_throwing xM_ s0_ (0 : Int32) (0 : Int32) (0 : Int32) (fun r19 u19 => ((r19 = 0 → (post (sF u19 2 a1))) ∧ (¬ r19 = 0 → (post u19))))
def wp_M_span (xM : St) (a1 : Int32) (post : St → Prop) : Prop := wp_M_in a1 (0 : Int32) (100000 : Int32) (fun r5 _ => ((¬ r5 = 0 → (wj_M_span_16 xM a1 post xM (0 : Int32))) ∧ (r5 = 0 → (wj_M_span_16 xM a1 post xM (1 : Int32)))))
set_option maxHeartbeats 4000000 in
set_option maxRecDepth 100000 in
theorem c_M_span (l : Launch) (dC : Nat → ClassId) (dI : Nat → Nat → Nat) (cI cZ cL : ClassId) (qM : Nat → Nat) (sz : Nat) (xM : St) (a1 : Int32) (post : St → Prop) (hw : wp_M_span xM a1 post) : Met l y_M_span w_M_span ({ frames := 1, cells := 0, slots := 0, locals := 24 } : Room) (va_Pc [.ref (qM 0), .int a1] (xP (dC, dI) vwCl [(cI, .int), (cZ, .boolean), (cL, .long)] (wd_M qM cI cZ cL xM) sz)) (va_Qv post (xB (dC, dI) vwCl [(cI, .int), (cZ, .boolean), (cL, .long)] (va_A (wd_M qM cI cZ cL xM) sz) (fun u => (wd_M qM cI cZ cL u))) (va_A (wd_M qM cI cZ cL xM) sz)) 0 0 (va_A (wd_M qM cI cZ cL xM) sz) := by
  refine x_ofV (cc := b_M_span) (maxL := 2) (by decide) rfl (Nat.le_of_ble_eq_true rfl) (fun p e s m below meth c A Q hx hb hml hts hown hin hK hA hP hD hS hret ls hl => ?_)
  have hl : lv_has ls 2 [(0, .ref (qM 0)), (1, .int a1)] := hl
  have jn16 : ∀ (xM_ : St) (s0_ : Int32) (H : Heap) (locs : List Loc) (ls : Array Slot), wj_M_span_16 xM a1 post xM_ s0_ → va_P (dC, dI) vwCl (wd_M qM cI cZ cL xM_) H → va_D A (wd_M qM cI cZ cL xM_) → va_S A s.heap H locs → lv_has ls 2 [(0, .ref (qM 0)), (1, .int a1)] → W p l e (headSpec w_M_span ({ frames := 1, cells := 0, slots := 0, locals := 24 } : Room)).room s m ([.ref (qM 0), .int a1] : List Value).toArray below meth c H locs 0 0 Q (F0 m 16 ls [.int s0_, .ref (qM 0)]) := by
    intro xM_ s0_ H locs ls hw hP hD hS hl
    unfold wj_M_span_16 at hw
    refine lv_iconst (v := (0 : Int32)) hx hb d_M_span_16 (by decide) ?_
    refine lv_iconst (v := (0 : Int32)) hx hb d_M_span_17 (by decide) ?_
    refine lv_iconst (v := (0 : Int32)) hx hb d_M_span_18 (by decide) ?_
    refine x_ci (w2 := fun u19 => (wd_M qM cI cZ cL u19)) [0, 1, 2, 3, 4, 5, 6, 7, 8, 9, 10, 11, 12, 13, 14, 15, 16, 17, 18, 19, 20, 21] [] [0, 1, 2, 3, 4, 5, 6, 7, 8, 9, 10, 11, 12, 13, 14, 15, 16, 17, 18, 19, 20, 21] (va_runV (As := [.int s0_, .int (0 : Int32), .int (0 : Int32), .int (0 : Int32)]) (rest := []) ⟨hx, hb, hml, hown, hts⟩ (c_M_throwing l dC dI cI cZ cL qM _ xM_ s0_ (0 : Int32) (0 : Int32) (0 : Int32) _ hw) (cwV 4 hts (x_gV k_670 k_672 k_10 k_30 k_673) rfl rfl rfl (by decide +kernel) ⟨Nat.le_of_ble_eq_true rfl, Nat.le_of_ble_eq_true rfl⟩) ⟨x_blind, va_recv hK hP (ci := 4) (q0 := 0) rfl rfl, fun U hU hW => x_pre (isC := [0, 1, 2, 3, 4, 5, 6, 7, 8, 9, 10, 11, 12, 13, 14, 15, 16, 17, 18, 19, 20, 21]) hK hP hD rfl rfl hU hW⟩ rfl rfl hl.1 rfl (lv_room (Nat.le_of_ble_eq_true rfl)) d_M_span_19 ⟨Nat.le_of_ble_eq_true rfl, Nat.le_of_ble_eq_true rfl⟩) hP hD hS hA rfl rfl rfl (by decide) (fun _ => rfl) rfl (fun r19 u19 H locs hw hP hD hS => ?_)
    refine lv_if_eq (tgt := 26) hx hb d_M_span_22 (by decide) (fun c22 => ?_) (fun c22 => ?_)
    · have hw := hw.1 c22
      refine lv_aload_n hx hb d_M_span_26 rfl (lv_at hl 0 rfl) ?_
      refine lv_iload_n hx hb d_M_span_27 rfl (lv_at hl 1 rfl) ?_
      refine va_put (D := (dC, dI)) (ci := 4) (v := .int a1) (ty := .int) (C := "ReleaseRowsModel") (T := T_M) (N := 27) hx hb hts in_M ty_M tyok_M nm_M hown hK hP hD hS 0 rfl rfl 2 (by decide) (hts _ k_578) (fun _ h9 => h9) rfl (by decide +kernel) rfl rfl (Nat.le_of_ble_eq_true rfl) d_M_span_28 (fun H locs hP hD hS => ?_)
      have hP := wsP_M_M2 hP
      have hD := wsD_M_M2 hD
      exact hret (sF u19 2 a1) _ _ _ _ _ _ hw hP hD hS (Nat.le_of_ble_eq_true rfl) (Nat.le_of_ble_eq_true rfl) d_M_span_31
    · have hw := hw.2 c22
      exact hret u19 _ _ _ _ _ _ hw hP hD hS (Nat.le_of_ble_eq_true rfl) (Nat.le_of_ble_eq_true rfl) d_M_span_25
  unfold wp_M_span at hw
  refine lv_aload_n hx hb d_M_span_0 rfl (lv_at hl 0 rfl) ?_
  refine lv_iload_n hx hb d_M_span_1 rfl (lv_at hl 1 rfl) ?_
  refine lv_iconst (v := (0 : Int32)) hx hb d_M_span_2 (by decide) ?_
  refine lv_ldc (v := (100000 : Int32)) hx hb hown (hts _ k_726) d_M_span_3 ?_
  refine x_ci (w2 := fun _ => (wd_M qM cI cZ cL xM)) [] [0, 1, 2, 3, 4, 5, 6, 7, 8, 9, 10, 11, 12, 13, 14, 15, 16, 17, 18, 19, 20, 21] [0, 1, 2, 3, 4, 5, 6, 7, 8, 9, 10, 11, 12, 13, 14, 15, 16, 17, 18, 19, 20, 21] (va_runS (As := [.int a1, .int (0 : Int32), .int (100000 : Int32)]) (rest := [.ref (qM 0)]) ⟨hx, hb, hml, hown, hts⟩ (c_M_in l dC dI cI cZ cL  _ a1 (0 : Int32) (100000 : Int32) _ hw) (cwS 3 hts (x_gS k_667 k_668 k_30 k_669) rfl rfl rfl (by decide +kernel) ⟨Nat.le_of_ble_eq_true rfl, Nat.le_of_ble_eq_true rfl⟩) ⟨x_blind, fun U hU hW => x_pre (isC := []) hK hP hD rfl rfl hU hW⟩ rfl rfl hl.1 rfl (lv_room (Nat.le_of_ble_eq_true rfl)) d_M_span_5 ⟨Nat.le_of_ble_eq_true rfl, Nat.le_of_ble_eq_true rfl⟩) hP hD hS hA rfl rfl rfl (by decide) (fun _ => rfl) rfl (fun r5 _ H locs hw hP hD hS => ?_)
  refine lv_if_ne (tgt := 15) hx hb d_M_span_8 (by decide) (fun c8 => ?_) (fun c8 => ?_)
  · have hw := hw.1 c8
    refine lv_iconst (v := (0 : Int32)) hx hb d_M_span_15 (by decide) ?_
    exact jn16 xM (0 : Int32) _ _ _ hw hP hD hS hl
  · have hw := hw.2 c8
    refine lv_iconst (v := (1 : Int32)) hx hb d_M_span_11 (by decide) ?_
    refine lv_goto (tgt := 16) hx hb d_M_span_12 (by decide) ?_
    exact jn16 xM (1 : Int32) _ _ _ hw hP hD hS hl

def wj_M_send_51 (xM : St) (a1 : Int32) (a2 : Int32) (post : St → Prop) (xM_ : St) (s0_ : Int32) (s1_ : Int32) : Prop := wp_M_throwing xM_ s1_ s0_ (0 : Int32) (0 : Int32) (fun r53 u53 => ((r53 = 0 → (wp_M_put u53 a1 a2 (fun u63 => (wp_M_settle u63 (fun r67 u67 => (post u67)))))) ∧ (¬ r53 = 0 → (post u53))))
def wj_M_send_50 (xM : St) (a1 : Int32) (a2 : Int32) (post : St → Prop) (xM_ : St) (s0_ : Int32) : Prop := wj_M_send_51 xM a1 a2 post xM_ (0 : Int32) s0_
def wj_M_send_46 (xM : St) (a1 : Int32) (a2 : Int32) (post : St → Prop) (xM_ : St) (s0_ : Int32) : Prop := wj_M_send_51 xM a1 a2 post xM_ (1 : Int32) s0_
def wj_M_send_21 (xM : St) (a1 : Int32) (a2 : Int32) (post : St → Prop) (xM_ : St) (s0_ : Int32) : Prop := (¬ s0_ = 0 → (wj_M_send_50 xM a1 a2 post xM_ s0_)) ∧ (s0_ = 0 → (vp_in a1 24 ∧ ((¬ (xM_.1 8 a1.toNatClampNeg) = 0 → (wj_M_send_46 xM a1 a2 post xM_ s0_)) ∧ ((xM_.1 8 a1.toNatClampNeg) = 0 → (vp_in a2 20 ∧ ((¬ (xM_.1 17 a2.toNatClampNeg) = 0 → (wj_M_send_50 xM a1 a2 post xM_ s0_)) ∧ ((xM_.1 17 a2.toNatClampNeg) = 0 → (wj_M_send_46 xM a1 a2 post xM_ s0_))))))))
def wj_M_send_16 (xM : St) (a1 : Int32) (a2 : Int32) (post : St → Prop) (xM_ : St) : Prop := wj_M_send_21 xM a1 a2 post xM_ (1 : Int32)
def wp_M_send (xM : St) (a1 : Int32) (a2 : Int32) (post : St → Prop) : Prop := wp_M_isUnit xM a1 (fun r2 _ => ((r2 = 0 → (wj_M_send_16 xM a1 a2 post xM)) ∧ (¬ r2 = 0 → (wp_M_isIncident xM a2 (fun r10 _ => ((¬ r10 = 0 → (wj_M_send_21 xM a1 a2 post xM (0 : Int32))) ∧ (r10 = 0 → (wj_M_send_16 xM a1 a2 post xM))))))))
set_option maxHeartbeats 4000000 in
set_option maxRecDepth 100000 in
theorem c_M_send (l : Launch) (dC : Nat → ClassId) (dI : Nat → Nat → Nat) (cI cZ cL : ClassId) (qM : Nat → Nat) (sz : Nat) (xM : St) (a1 : Int32) (a2 : Int32) (post : St → Prop) (hw : wp_M_send xM a1 a2 post) : Met l y_M_send w_M_send ({ frames := 4, cells := 0, slots := 0, locals := 90 } : Room) (va_Pc [.ref (qM 0), .int a1, .int a2] (xP (dC, dI) vwCl [(cI, .int), (cZ, .boolean), (cL, .long)] (wd_M qM cI cZ cL xM) sz)) (va_Qv post (xB (dC, dI) vwCl [(cI, .int), (cZ, .boolean), (cL, .long)] (va_A (wd_M qM cI cZ cL xM) sz) (fun u => (wd_M qM cI cZ cL u))) (va_A (wd_M qM cI cZ cL xM) sz)) 0 0 (va_A (wd_M qM cI cZ cL xM) sz) := by
  refine x_ofV (cc := b_M_send) (maxL := 4) (by decide) rfl (Nat.le_of_ble_eq_true rfl) (fun p e s m below meth c A Q hx hb hml hts hown hin hK hA hP hD hS hret ls hl => ?_)
  have hl : lv_has ls 4 [(0, .ref (qM 0)), (1, .int a1), (2, .int a2)] := hl
  have jn51 : ∀ (xM_ : St) (s0_ : Int32) (s1_ : Int32) (H : Heap) (locs : List Loc) (ls : Array Slot), wj_M_send_51 xM a1 a2 post xM_ s0_ s1_ → va_P (dC, dI) vwCl (wd_M qM cI cZ cL xM_) H → va_D A (wd_M qM cI cZ cL xM_) → va_S A s.heap H locs → lv_has ls 4 [(0, .ref (qM 0)), (1, .int a1), (2, .int a2)] → W p l e (headSpec w_M_send ({ frames := 4, cells := 0, slots := 0, locals := 90 } : Room)).room s m ([.ref (qM 0), .int a1, .int a2] : List Value).toArray below meth c H locs 0 0 Q (F0 m 51 ls [.int s0_, .int s1_, .ref (qM 0)]) := by
    intro xM_ s0_ s1_ H locs ls hw hP hD hS hl
    unfold wj_M_send_51 at hw
    refine lv_iconst (v := (0 : Int32)) hx hb d_M_send_51 (by decide) ?_
    refine lv_iconst (v := (0 : Int32)) hx hb d_M_send_52 (by decide) ?_
    refine x_ci (w2 := fun u53 => (wd_M qM cI cZ cL u53)) [0, 1, 2, 3, 4, 5, 6, 7, 8, 9, 10, 11, 12, 13, 14, 15, 16, 17, 18, 19, 20, 21] [] [0, 1, 2, 3, 4, 5, 6, 7, 8, 9, 10, 11, 12, 13, 14, 15, 16, 17, 18, 19, 20, 21] (va_runV (As := [.int s1_, .int s0_, .int (0 : Int32), .int (0 : Int32)]) (rest := []) ⟨hx, hb, hml, hown, hts⟩ (c_M_throwing l dC dI cI cZ cL qM _ xM_ s1_ s0_ (0 : Int32) (0 : Int32) _ hw) (cwV 4 hts (x_gV k_670 k_672 k_10 k_30 k_673) rfl rfl rfl (by decide +kernel) ⟨Nat.le_of_ble_eq_true rfl, Nat.le_of_ble_eq_true rfl⟩) ⟨x_blind, va_recv hK hP (ci := 4) (q0 := 0) rfl rfl, fun U hU hW => x_pre (isC := [0, 1, 2, 3, 4, 5, 6, 7, 8, 9, 10, 11, 12, 13, 14, 15, 16, 17, 18, 19, 20, 21]) hK hP hD rfl rfl hU hW⟩ rfl rfl hl.1 rfl (lv_room (Nat.le_of_ble_eq_true rfl)) d_M_send_53 ⟨Nat.le_of_ble_eq_true rfl, Nat.le_of_ble_eq_true rfl⟩) hP hD hS hA rfl rfl rfl (by decide) (fun _ => rfl) rfl (fun r53 u53 H locs hw hP hD hS => ?_)
    refine lv_if_eq (tgt := 60) hx hb d_M_send_56 (by decide) (fun c56 => ?_) (fun c56 => ?_)
    · have hw := hw.1 c56
      refine lv_aload_n hx hb d_M_send_60 rfl (lv_at hl 0 rfl) ?_
      refine lv_iload_n hx hb d_M_send_61 rfl (lv_at hl 1 rfl) ?_
      refine lv_iload_n hx hb d_M_send_62 rfl (lv_at hl 2 rfl) ?_
      refine x_cv (w2 := fun u63 => (wd_M qM cI cZ cL u63)) [0, 1, 2, 3, 4, 5, 6, 7, 8, 9, 10, 11, 12, 13, 14, 15, 16, 17, 18, 19, 20, 21] [] [0, 1, 2, 3, 4, 5, 6, 7, 8, 9, 10, 11, 12, 13, 14, 15, 16, 17, 18, 19, 20, 21] (va_runV (As := [.int a1, .int a2]) (rest := []) ⟨hx, hb, hml, hown, hts⟩ (c_M_put l dC dI cI cZ cL qM _ u53 a1 a2 _ hw) (cwV 2 hts (x_gV k_698 k_700 k_17 k_30 k_701) rfl rfl rfl (by decide +kernel) ⟨Nat.le_of_ble_eq_true rfl, Nat.le_of_ble_eq_true rfl⟩) ⟨x_blind, va_recv hK hP (ci := 4) (q0 := 0) rfl rfl, fun U hU hW => x_pre (isC := [0, 1, 2, 3, 4, 5, 6, 7, 8, 9, 10, 11, 12, 13, 14, 15, 16, 17, 18, 19, 20, 21]) hK hP hD rfl rfl hU hW⟩ rfl rfl hl.1 rfl (lv_room (Nat.le_of_ble_eq_true rfl)) d_M_send_63 ⟨Nat.le_of_ble_eq_true rfl, Nat.le_of_ble_eq_true rfl⟩) hP hD hS hA rfl rfl rfl (by decide) (fun _ => rfl) rfl (fun u63 H locs hw hP hD hS => ?_)
      refine lv_aload_n hx hb d_M_send_66 rfl (lv_at hl 0 rfl) ?_
      refine x_ci (w2 := fun u67 => (wd_M qM cI cZ cL u67)) [0, 1, 2, 3, 4, 5, 6, 7, 8, 9, 10, 11, 12, 13, 14, 15, 16, 17, 18, 19, 20, 21] [] [0, 1, 2, 3, 4, 5, 6, 7, 8, 9, 10, 11, 12, 13, 14, 15, 16, 17, 18, 19, 20, 21] (va_runV (As := []) (rest := []) ⟨hx, hb, hml, hown, hts⟩ (c_M_settle l dC dI cI cZ cL qM _ u63 _ hw) (cwV 0 hts (x_gV k_674 k_676 k_11 k_30 k_677) rfl rfl rfl (by decide +kernel) ⟨Nat.le_of_ble_eq_true rfl, Nat.le_of_ble_eq_true rfl⟩) ⟨x_blind, va_recv hK hP (ci := 4) (q0 := 0) rfl rfl, fun U hU hW => x_pre (isC := [0, 1, 2, 3, 4, 5, 6, 7, 8, 9, 10, 11, 12, 13, 14, 15, 16, 17, 18, 19, 20, 21]) hK hP hD rfl rfl hU hW⟩ rfl rfl hl.1 rfl (lv_room (Nat.le_of_ble_eq_true rfl)) d_M_send_67 ⟨Nat.le_of_ble_eq_true rfl, Nat.le_of_ble_eq_true rfl⟩) hP hD hS hA rfl rfl rfl (by decide) (fun _ => rfl) rfl (fun r67 u67 H locs hw hP hD hS => ?_)
      refine lv_pop hx hb d_M_send_70 rfl ?_
      exact hret u67 _ _ _ _ _ _ hw hP hD hS (Nat.le_of_ble_eq_true rfl) (Nat.le_of_ble_eq_true rfl) d_M_send_71
    · have hw := hw.2 c56
      exact hret u53 _ _ _ _ _ _ hw hP hD hS (Nat.le_of_ble_eq_true rfl) (Nat.le_of_ble_eq_true rfl) d_M_send_59
  have jn50 : ∀ (xM_ : St) (s0_ : Int32) (H : Heap) (locs : List Loc) (ls : Array Slot), wj_M_send_50 xM a1 a2 post xM_ s0_ → va_P (dC, dI) vwCl (wd_M qM cI cZ cL xM_) H → va_D A (wd_M qM cI cZ cL xM_) → va_S A s.heap H locs → lv_has ls 4 [(0, .ref (qM 0)), (1, .int a1), (2, .int a2)] → W p l e (headSpec w_M_send ({ frames := 4, cells := 0, slots := 0, locals := 90 } : Room)).room s m ([.ref (qM 0), .int a1, .int a2] : List Value).toArray below meth c H locs 0 0 Q (F0 m 50 ls [.int s0_, .ref (qM 0)]) := by
    intro xM_ s0_ H locs ls hw hP hD hS hl
    unfold wj_M_send_50 at hw
    refine lv_iconst (v := (0 : Int32)) hx hb d_M_send_50 (by decide) ?_
    exact jn51 xM_ (0 : Int32) s0_ _ _ _ hw hP hD hS hl
  have jn46 : ∀ (xM_ : St) (s0_ : Int32) (H : Heap) (locs : List Loc) (ls : Array Slot), wj_M_send_46 xM a1 a2 post xM_ s0_ → va_P (dC, dI) vwCl (wd_M qM cI cZ cL xM_) H → va_D A (wd_M qM cI cZ cL xM_) → va_S A s.heap H locs → lv_has ls 4 [(0, .ref (qM 0)), (1, .int a1), (2, .int a2)] → W p l e (headSpec w_M_send ({ frames := 4, cells := 0, slots := 0, locals := 90 } : Room)).room s m ([.ref (qM 0), .int a1, .int a2] : List Value).toArray below meth c H locs 0 0 Q (F0 m 46 ls [.int s0_, .ref (qM 0)]) := by
    intro xM_ s0_ H locs ls hw hP hD hS hl
    unfold wj_M_send_46 at hw
    refine lv_iconst (v := (1 : Int32)) hx hb d_M_send_46 (by decide) ?_
    refine lv_goto (tgt := 51) hx hb d_M_send_47 (by decide) ?_
    exact jn51 xM_ (1 : Int32) s0_ _ _ _ hw hP hD hS hl
  have jn21 : ∀ (xM_ : St) (s0_ : Int32) (H : Heap) (locs : List Loc) (ls : Array Slot), wj_M_send_21 xM a1 a2 post xM_ s0_ → va_P (dC, dI) vwCl (wd_M qM cI cZ cL xM_) H → va_D A (wd_M qM cI cZ cL xM_) → va_S A s.heap H locs → lv_has ls 4 [(0, .ref (qM 0)), (1, .int a1), (2, .int a2)] → W p l e (headSpec w_M_send ({ frames := 4, cells := 0, slots := 0, locals := 90 } : Room)).room s m ([.ref (qM 0), .int a1, .int a2] : List Value).toArray below meth c H locs 0 0 Q (F0 m 21 ls [.int s0_]) := by
    intro xM_ s0_ H locs ls hw hP hD hS hl
    unfold wj_M_send_21 at hw
    refine lv_istore_n (lv' := [(3, .int s0_), (0, .ref (qM 0)), (1, .int a1), (2, .int a2)]) hx hb d_M_send_21 rfl hl (by decide) rfl (fun ls hl => ?_)
    refine lv_aload_n hx hb d_M_send_22 rfl (lv_at hl 1 rfl) ?_
    refine lv_iload_n hx hb d_M_send_23 rfl (lv_at hl 0 rfl) ?_
    refine lv_iload_n hx hb d_M_send_24 rfl (lv_at hl 0 rfl) ?_
    refine lv_if_ne (tgt := 50) hx hb d_M_send_25 (by decide) (fun c25 => ?_) (fun c25 => ?_)
    · have hw := hw.1 c25
      exact jn50 xM_ s0_ _ _ _ hw hP hD hS (lv_sub hl [1, 2, 3] rfl)
    · have hw := hw.2 c25
      refine lv_aload_n hx hb d_M_send_28 rfl (lv_at hl 1 rfl) ?_
      refine va_get (D := (dC, dI)) (ci := 4) (v := .ref (qM 9)) (C := "ReleaseRowsModel") (T := T_M) (N := 27) hx hb hts in_M hown hK hP 0 rfl rfl 8 (by decide) (hts _ k_584) (fun _ h9 => h9) rfl d_M_send_29 ?_
      refine lv_iload_n hx hb d_M_send_32 rfl (lv_at hl 2 rfl) ?_
      obtain ⟨h33, hw⟩ := hw
      refine va_iald hx hb hK hP 5 0 rfl rfl h33 d_M_send_33 ?_
      refine lv_if_ne (tgt := 46) hx hb d_M_send_34 (by decide) (fun c34 => ?_) (fun c34 => ?_)
      · have hw := hw.1 c34
        exact jn46 xM_ s0_ _ _ _ hw hP hD hS (lv_sub hl [1, 2, 3] rfl)
      · have hw := hw.2 c34
        refine lv_aload_n hx hb d_M_send_37 rfl (lv_at hl 1 rfl) ?_
        refine va_get (D := (dC, dI)) (ci := 4) (v := .ref (qM 18)) (C := "ReleaseRowsModel") (T := T_M) (N := 27) hx hb hts in_M hown hK hP 0 rfl rfl 17 (by decide) (hts _ k_593) (fun _ h9 => h9) rfl d_M_send_38 ?_
        refine lv_iload_n hx hb d_M_send_41 rfl (lv_at hl 3 rfl) ?_
        obtain ⟨h42, hw⟩ := hw
        refine va_zald hx hb hK hP 13 1 rfl rfl h42 d_M_send_42 ?_
        refine lv_if_ne (tgt := 50) hx hb d_M_send_43 (by decide) (fun c43 => ?_) (fun c43 => ?_)
        · have hw := hw.1 c43
          exact jn50 xM_ s0_ _ _ _ hw hP hD hS (lv_sub hl [1, 2, 3] rfl)
        · have hw := hw.2 c43
          exact jn46 xM_ s0_ _ _ _ hw hP hD hS (lv_sub hl [1, 2, 3] rfl)
  have jn16 : ∀ (xM_ : St) (H : Heap) (locs : List Loc) (ls : Array Slot), wj_M_send_16 xM a1 a2 post xM_ → va_P (dC, dI) vwCl (wd_M qM cI cZ cL xM_) H → va_D A (wd_M qM cI cZ cL xM_) → va_S A s.heap H locs → lv_has ls 4 [(0, .ref (qM 0)), (1, .int a1), (2, .int a2)] → W p l e (headSpec w_M_send ({ frames := 4, cells := 0, slots := 0, locals := 90 } : Room)).room s m ([.ref (qM 0), .int a1, .int a2] : List Value).toArray below meth c H locs 0 0 Q (F0 m 16 ls []) := by
    intro xM_ H locs ls hw hP hD hS hl
    unfold wj_M_send_16 at hw
    refine lv_iconst (v := (1 : Int32)) hx hb d_M_send_16 (by decide) ?_
    refine lv_goto (tgt := 21) hx hb d_M_send_17 (by decide) ?_
    exact jn21 xM_ (1 : Int32) _ _ _ hw hP hD hS hl
  unfold wp_M_send at hw
  refine lv_aload_n hx hb d_M_send_0 rfl (lv_at hl 0 rfl) ?_
  refine lv_iload_n hx hb d_M_send_1 rfl (lv_at hl 1 rfl) ?_
  refine x_ci (w2 := fun _ => (wd_M qM cI cZ cL xM)) [0, 1, 2, 3, 4, 5, 6, 7, 8, 9, 10, 11, 12, 13, 14, 15, 16, 17, 18, 19, 20, 21] [] [0, 1, 2, 3, 4, 5, 6, 7, 8, 9, 10, 11, 12, 13, 14, 15, 16, 17, 18, 19, 20, 21] (va_runV (As := [.int a1]) (rest := []) ⟨hx, hb, hml, hown, hts⟩ (c_M_isUnit l dC dI cI cZ cL qM _ xM a1 _ hw) (cwV 1 hts (x_gV k_718 k_720 k_21 k_30 k_721) rfl rfl rfl (by decide +kernel) ⟨Nat.le_of_ble_eq_true rfl, Nat.le_of_ble_eq_true rfl⟩) ⟨x_blind, va_recv hK hP (ci := 4) (q0 := 0) rfl rfl, fun U hU hW => x_pre (isC := [0, 1, 2, 3, 4, 5, 6, 7, 8, 9, 10, 11, 12, 13, 14, 15, 16, 17, 18, 19, 20, 21]) hK hP hD rfl rfl hU hW⟩ rfl rfl hl.1 rfl (lv_room (Nat.le_of_ble_eq_true rfl)) d_M_send_2 ⟨Nat.le_of_ble_eq_true rfl, Nat.le_of_ble_eq_true rfl⟩) hP hD hS hA rfl rfl rfl (by decide) (fun _ => rfl) rfl (fun r2 _ H locs hw hP hD hS => ?_)
  refine lv_if_eq (tgt := 16) hx hb d_M_send_5 (by decide) (fun c5 => ?_) (fun c5 => ?_)
  · have hw := hw.1 c5
    exact jn16 xM _ _ _ hw hP hD hS hl
  · have hw := hw.2 c5
    refine lv_aload_n hx hb d_M_send_8 rfl (lv_at hl 0 rfl) ?_
    refine lv_iload_n hx hb d_M_send_9 rfl (lv_at hl 2 rfl) ?_
    refine x_ci (w2 := fun _ => (wd_M qM cI cZ cL xM)) [0, 1, 2, 3, 4, 5, 6, 7, 8, 9, 10, 11, 12, 13, 14, 15, 16, 17, 18, 19, 20, 21] [] [0, 1, 2, 3, 4, 5, 6, 7, 8, 9, 10, 11, 12, 13, 14, 15, 16, 17, 18, 19, 20, 21] (va_runV (As := [.int a2]) (rest := []) ⟨hx, hb, hml, hown, hts⟩ (c_M_isIncident l dC dI cI cZ cL qM _ xM a2 _ hw) (cwV 1 hts (x_gV k_744 k_746 k_23 k_30 k_747) rfl rfl rfl (by decide +kernel) ⟨Nat.le_of_ble_eq_true rfl, Nat.le_of_ble_eq_true rfl⟩) ⟨x_blind, va_recv hK hP (ci := 4) (q0 := 0) rfl rfl, fun U hU hW => x_pre (isC := [0, 1, 2, 3, 4, 5, 6, 7, 8, 9, 10, 11, 12, 13, 14, 15, 16, 17, 18, 19, 20, 21]) hK hP hD rfl rfl hU hW⟩ rfl rfl hl.1 rfl (lv_room (Nat.le_of_ble_eq_true rfl)) d_M_send_10 ⟨Nat.le_of_ble_eq_true rfl, Nat.le_of_ble_eq_true rfl⟩) hP hD hS hA rfl rfl rfl (by decide) (fun _ => rfl) rfl (fun r10 _ H locs hw hP hD hS => ?_)
    refine lv_if_ne (tgt := 20) hx hb d_M_send_13 (by decide) (fun c13 => ?_) (fun c13 => ?_)
    · have hw := hw.1 c13
      refine lv_iconst (v := (0 : Int32)) hx hb d_M_send_20 (by decide) ?_
      exact jn21 xM (0 : Int32) _ _ _ hw hP hD hS hl
    · have hw := hw.2 c13
      exact jn16 xM _ _ _ hw hP hD hS hl

def wj_M_release_146 (xM : St) (a1 : Int32) (a2 : Int32) (post : Int32 → St → Prop) (xM_ : St) (v3_ : Int32) : Prop := wp_M_settle xM_ (fun r147 u147 => (post v3_ u147))
def wj_M_release_121 (xM : St) (a1 : Int32) (a2 : Int32) (post : Int32 → St → Prop) (rec48 : St → Int32 → Int32 → Prop) (rec64 : St → Int32 → Int32 → Int32 → Prop) (xM_ : St) (v3_ : Int32) (v4_ : Int32) (v5_ : Int32) : Prop := ∀ v5_121 : Int32, v5_121 = v5_ + 1 → (rec64 xM_ v3_ v4_ v5_121)
def wj_M_release_117 (xM : St) (a1 : Int32) (a2 : Int32) (post : Int32 → St → Prop) (rec48 : St → Int32 → Int32 → Prop) (rec64 : St → Int32 → Int32 → Int32 → Prop) (xM_ : St) (v3_ : Int32) (v5_ : Int32) : Prop := wj_M_release_121 xM a1 a2 post rec48 rec64 xM_ v3_ v5_ v5_
def wl_M_release_64 (xM : St) (a1 : Int32) (a2 : Int32) (post : Int32 → St → Prop) (rec48 : St → Int32 → Int32 → Prop) : Nat → St → Int32 → Int32 → Int32 → Prop
  | 0 => fun _ _ _ _ => False
  | n9 + 1 => fun xM_ v3_ v4_ v5_ => ((xM_.2 3) ≤ v5_ → ((v4_ < 0 → (rec48 xM_ v3_ v4_)) ∧ (¬ v4_ < 0 → (wp_M_become xM_ v4_ (2 : Int32) (-1 : Int32) (fun u137 => (∀ v3_140 : Int32, v3_140 = v3_ + 1 → (rec48 u137 v3_140 v4_))))))) ∧ (¬ (xM_.2 3) ≤ v5_ → (vp_in v5_ 24 ∧ ((¬ (xM_.1 8 v5_.toNatClampNeg) = (1 : Int32) → (wj_M_release_121 xM a1 a2 post rec48 (wl_M_release_64 xM a1 a2 post rec48 n9) xM_ v3_ v4_ v5_)) ∧ ((xM_.1 8 v5_.toNatClampNeg) = (1 : Int32) → (vp_in v5_ 24 ∧ ((¬ (xM_.1 9 v5_.toNatClampNeg) = a1 → (wj_M_release_121 xM a1 a2 post rec48 (wl_M_release_64 xM a1 a2 post rec48 n9) xM_ v3_ v4_ v5_)) ∧ ((xM_.1 9 v5_.toNatClampNeg) = a1 → ((v4_ < 0 → (wj_M_release_117 xM a1 a2 post rec48 (wl_M_release_64 xM a1 a2 post rec48 n9) xM_ v3_ v5_)) ∧ (¬ v4_ < 0 → (vp_in v5_ 24 ∧ (vp_in v4_ 24 ∧ (((xM_.1 4 v5_.toNatClampNeg) ≤ (xM_.1 4 v4_.toNatClampNeg) → (wj_M_release_121 xM a1 a2 post rec48 (wl_M_release_64 xM a1 a2 post rec48 n9) xM_ v3_ v4_ v5_)) ∧ (¬ (xM_.1 4 v5_.toNatClampNeg) ≤ (xM_.1 4 v4_.toNatClampNeg) → (wj_M_release_117 xM a1 a2 post rec48 (wl_M_release_64 xM a1 a2 post rec48 n9) xM_ v3_ v5_))))))))))))))
def wl_M_release_48 (xM : St) (a1 : Int32) (a2 : Int32) (post : Int32 → St → Prop) : Nat → St → Int32 → Int32 → Prop
  | 0 => fun _ _ _ => False
  | n9 + 1 => fun xM_ v3_ v4_ => (a2 ≤ v3_ → (wj_M_release_146 xM a1 a2 post xM_ v3_)) ∧ (¬ a2 ≤ v3_ → ((v4_ < 0 → (wj_M_release_146 xM a1 a2 post xM_ v3_)) ∧ (¬ v4_ < 0 → (∃ k9 : Nat, wl_M_release_64 xM a1 a2 post (wl_M_release_48 xM a1 a2 post n9) k9 xM_ v3_ (-1 : Int32) (0 : Int32)))))
def wj_M_release_29 (xM : St) (a1 : Int32) (a2 : Int32) (post : Int32 → St → Prop) (xM_ : St) (s0_ : Int32) (s1_ : Int32) : Prop := wp_M_isShut xM_ a1 (fun r31 _ => (wp_M_throwing xM_ s1_ s0_ r31 (0 : Int32) (fun r35 u35 => ((r35 = 0 → (∃ k9 : Nat, wl_M_release_48 xM a1 a2 post k9 u35 (0 : Int32) (0 : Int32))) ∧ (¬ r35 = 0 → (post (0 : Int32) u35))))))
def wj_M_release_14 (xM : St) (a1 : Int32) (a2 : Int32) (post : Int32 → St → Prop) (xM_ : St) (s0_ : Int32) : Prop := wp_M_in a2 (1 : Int32) (24 : Int32) (fun r18 _ => ((¬ r18 = 0 → (wj_M_release_29 xM a1 a2 post xM_ (0 : Int32) s0_)) ∧ (r18 = 0 → (wj_M_release_29 xM a1 a2 post xM_ (1 : Int32) s0_))))
def wp_M_release (xM : St) (a1 : Int32) (a2 : Int32) (post : Int32 → St → Prop) : Prop := wp_M_isIncident xM a1 (fun r3 _ => ((¬ r3 = 0 → (wj_M_release_14 xM a1 a2 post xM (0 : Int32))) ∧ (r3 = 0 → (wj_M_release_14 xM a1 a2 post xM (1 : Int32)))))
set_option maxHeartbeats 4000000 in
set_option maxRecDepth 100000 in
theorem c_M_release (l : Launch) (dC : Nat → ClassId) (dI : Nat → Nat → Nat) (cI cZ cL : ClassId) (qM : Nat → Nat) (sz : Nat) (xM : St) (a1 : Int32) (a2 : Int32) (post : Int32 → St → Prop) (hw : wp_M_release xM a1 a2 post) : Met l y_M_release w_M_release ({ frames := 4, cells := 0, slots := 0, locals := 90 } : Room) (va_Pc [.ref (qM 0), .int a1, .int a2] (xP (dC, dI) vwCl [(cI, .int), (cZ, .boolean), (cL, .long)] (wd_M qM cI cZ cL xM) sz)) (va_Qi post (xB (dC, dI) vwCl [(cI, .int), (cZ, .boolean), (cL, .long)] (va_A (wd_M qM cI cZ cL xM) sz) (fun u => (wd_M qM cI cZ cL u))) (va_A (wd_M qM cI cZ cL xM) sz)) 0 0 (va_A (wd_M qM cI cZ cL xM) sz) := by
  refine x_ofI (cc := b_M_release) (maxL := 6) (by decide) rfl (Nat.le_of_ble_eq_true rfl) (fun p e s m below meth c A Q hx hb hml hts hown hK hA hP hD hS hret ls hl => ?_)
  have hl : lv_has ls 6 [(0, .ref (qM 0)), (1, .int a1), (2, .int a2)] := hl
  have jn146 : ∀ (xM_ : St) (v3_ : Int32) (H : Heap) (locs : List Loc) (ls : Array Slot), wj_M_release_146 xM a1 a2 post xM_ v3_ → va_P (dC, dI) vwCl (wd_M qM cI cZ cL xM_) H → va_D A (wd_M qM cI cZ cL xM_) → va_S A s.heap H locs → lv_has ls 6 [(0, .ref (qM 0)), (3, .int v3_)] → W p l e (headSpec w_M_release ({ frames := 4, cells := 0, slots := 0, locals := 90 } : Room)).room s m ([.ref (qM 0), .int a1, .int a2] : List Value).toArray below meth c H locs 0 0 Q (F0 m 146 ls []) := by
    intro xM_ v3_ H locs ls hw hP hD hS hl
    unfold wj_M_release_146 at hw
    refine lv_aload_n hx hb d_M_release_146 rfl (lv_at hl 0 rfl) ?_
    refine x_ci (w2 := fun u147 => (wd_M qM cI cZ cL u147)) [0, 1, 2, 3, 4, 5, 6, 7, 8, 9, 10, 11, 12, 13, 14, 15, 16, 17, 18, 19, 20, 21] [] [0, 1, 2, 3, 4, 5, 6, 7, 8, 9, 10, 11, 12, 13, 14, 15, 16, 17, 18, 19, 20, 21] (va_runV (As := []) (rest := []) ⟨hx, hb, hml, hown, hts⟩ (c_M_settle l dC dI cI cZ cL qM _ xM_ _ hw) (cwV 0 hts (x_gV k_674 k_676 k_11 k_30 k_677) rfl rfl rfl (by decide +kernel) ⟨Nat.le_of_ble_eq_true rfl, Nat.le_of_ble_eq_true rfl⟩) ⟨x_blind, va_recv hK hP (ci := 4) (q0 := 0) rfl rfl, fun U hU hW => x_pre (isC := [0, 1, 2, 3, 4, 5, 6, 7, 8, 9, 10, 11, 12, 13, 14, 15, 16, 17, 18, 19, 20, 21]) hK hP hD rfl rfl hU hW⟩ rfl rfl hl.1 rfl (lv_room (Nat.le_of_ble_eq_true rfl)) d_M_release_147 ⟨Nat.le_of_ble_eq_true rfl, Nat.le_of_ble_eq_true rfl⟩) hP hD hS hA rfl rfl rfl (by decide) (fun _ => rfl) rfl (fun r147 u147 H locs hw hP hD hS => ?_)
    refine lv_pop hx hb d_M_release_150 rfl ?_
    refine lv_iload_n hx hb d_M_release_151 rfl (lv_at hl 1 rfl) ?_
    exact hret v3_ u147 _ _ _ _ _ _ rfl hw hP hD hS (Nat.le_of_ble_eq_true rfl) (Nat.le_of_ble_eq_true rfl) d_M_release_152
  have lp48 : ∀ (n48 : Nat) (xM_ : St) (v3_ : Int32) (v4_ : Int32) (H : Heap) (locs : List Loc) (ls : Array Slot), wl_M_release_48 xM a1 a2 post n48 xM_ v3_ v4_ → va_P (dC, dI) vwCl (wd_M qM cI cZ cL xM_) H → va_D A (wd_M qM cI cZ cL xM_) → va_S A s.heap H locs → lv_has ls 6 [(0, .ref (qM 0)), (1, .int a1), (2, .int a2), (3, .int v3_), (4, .int v4_)] → W p l e (headSpec w_M_release ({ frames := 4, cells := 0, slots := 0, locals := 90 } : Room)).room s m ([.ref (qM 0), .int a1, .int a2] : List Value).toArray below meth c H locs 0 0 Q (F0 m 48 ls []) := by
    intro n48
    induction n48 with
    | zero => intro xM_ v3_ v4_ H locs ls hw; exact hw.elim
    | succ n48 ih48 =>
      have lp64 : ∀ (n64 : Nat) (xM_ : St) (v3_ : Int32) (v4_ : Int32) (v5_ : Int32) (H : Heap) (locs : List Loc) (ls : Array Slot), wl_M_release_64 xM a1 a2 post (wl_M_release_48 xM a1 a2 post n48) n64 xM_ v3_ v4_ v5_ → va_P (dC, dI) vwCl (wd_M qM cI cZ cL xM_) H → va_D A (wd_M qM cI cZ cL xM_) → va_S A s.heap H locs → lv_has ls 6 [(0, .ref (qM 0)), (1, .int a1), (2, .int a2), (3, .int v3_), (4, .int v4_), (5, .int v5_)] → W p l e (headSpec w_M_release ({ frames := 4, cells := 0, slots := 0, locals := 90 } : Room)).room s m ([.ref (qM 0), .int a1, .int a2] : List Value).toArray below meth c H locs 0 0 Q (F0 m 64 ls []) := by
        intro n64
        induction n64 with
        | zero => intro xM_ v3_ v4_ v5_ H locs ls hw; exact hw.elim
        | succ n64 ih64 =>
          have jn121 : ∀ (xM_ : St) (v3_ : Int32) (v4_ : Int32) (v5_ : Int32) (H : Heap) (locs : List Loc) (ls : Array Slot), wj_M_release_121 xM a1 a2 post (wl_M_release_48 xM a1 a2 post n48) (wl_M_release_64 xM a1 a2 post (wl_M_release_48 xM a1 a2 post n48) n64) xM_ v3_ v4_ v5_ → va_P (dC, dI) vwCl (wd_M qM cI cZ cL xM_) H → va_D A (wd_M qM cI cZ cL xM_) → va_S A s.heap H locs → lv_has ls 6 [(0, .ref (qM 0)), (1, .int a1), (2, .int a2), (3, .int v3_), (4, .int v4_), (5, .int v5_)] → W p l e (headSpec w_M_release ({ frames := 4, cells := 0, slots := 0, locals := 90 } : Room)).room s m ([.ref (qM 0), .int a1, .int a2] : List Value).toArray below meth c H locs 0 0 Q (F0 m 121 ls []) := by
            intro xM_ v3_ v4_ v5_ H locs ls hw hP hD hS hl
            unfold wj_M_release_121 at hw
            obtain ⟨v5_121, ev5_121⟩ : ∃ y : Int32, y = v5_ + 1 := ⟨_, rfl⟩
            have hw := hw v5_121 ev5_121
            refine lv_iinc (v := v5_121) (lv' := [(5, .int v5_121), (0, .ref (qM 0)), (1, .int a1), (2, .int a2), (3, .int v3_), (4, .int v4_)]) hx hb d_M_release_121 hl (k := 5) rfl (by rw [ev5_121]; rfl) (by decide) rfl (fun ls hl => ?_)
            refine lv_goto (tgt := 64) hx hb d_M_release_124 (by decide) ?_
            exact ih64 xM_ v3_ v4_ v5_121 _ _ _ hw hP hD hS (lv_sub hl [1, 2, 3, 4, 5, 0] rfl)
          have jn117 : ∀ (xM_ : St) (v3_ : Int32) (v5_ : Int32) (H : Heap) (locs : List Loc) (ls : Array Slot), wj_M_release_117 xM a1 a2 post (wl_M_release_48 xM a1 a2 post n48) (wl_M_release_64 xM a1 a2 post (wl_M_release_48 xM a1 a2 post n48) n64) xM_ v3_ v5_ → va_P (dC, dI) vwCl (wd_M qM cI cZ cL xM_) H → va_D A (wd_M qM cI cZ cL xM_) → va_S A s.heap H locs → lv_has ls 6 [(0, .ref (qM 0)), (1, .int a1), (2, .int a2), (3, .int v3_), (5, .int v5_)] → W p l e (headSpec w_M_release ({ frames := 4, cells := 0, slots := 0, locals := 90 } : Room)).room s m ([.ref (qM 0), .int a1, .int a2] : List Value).toArray below meth c H locs 0 0 Q (F0 m 117 ls []) := by
            intro xM_ v3_ v5_ H locs ls hw hP hD hS hl
            unfold wj_M_release_117 at hw
            refine lv_iload hx hb d_M_release_117 (lv_at hl 4 rfl) ?_
            refine lv_istore (lv' := [(4, .int v5_), (0, .ref (qM 0)), (1, .int a1), (2, .int a2), (3, .int v3_), (5, .int v5_)]) hx hb d_M_release_119 hl (by decide) rfl (fun ls hl => ?_)
            exact jn121 xM_ v3_ v5_ v5_ _ _ _ hw hP hD hS (lv_sub hl [1, 2, 3, 4, 0, 5] rfl)
          intro xM_ v3_ v4_ v5_ H locs ls hw hP hD hS hl
          unfold wl_M_release_64 at hw
          refine lv_iload hx hb d_M_release_64 (lv_at hl 5 rfl) ?_
          refine lv_aload_n hx hb d_M_release_66 rfl (lv_at hl 0 rfl) ?_
          refine va_get (D := (dC, dI)) (ci := 4) (v := .int (xM_.2 3)) (C := "ReleaseRowsModel") (T := T_M) (N := 27) hx hb hts in_M hown hK hP 0 rfl rfl 3 (by decide) (hts _ k_579) (fun _ h9 => h9) rfl d_M_release_67 ?_
          refine lv_icmp_ge (tgt := 127) hx hb d_M_release_70 (by decide) (fun c70 => ?_) (fun c70 => ?_)
          · have hw := hw.1 c70
            refine lv_iload hx hb d_M_release_127 (lv_at hl 4 rfl) ?_
            refine lv_if_lt (tgt := 48) hx hb d_M_release_129 (by decide) (fun c129 => ?_) (fun c129 => ?_)
            · have hw := hw.1 c129
              exact ih48 xM_ v3_ v4_ _ _ _ hw hP hD hS (lv_sub hl [0, 1, 2, 3, 4] rfl)
            · have hw := hw.2 c129
              refine lv_aload_n hx hb d_M_release_132 rfl (lv_at hl 0 rfl) ?_
              refine lv_iload hx hb d_M_release_133 (lv_at hl 4 rfl) ?_
              refine lv_iconst (v := (2 : Int32)) hx hb d_M_release_135 (by decide) ?_
              refine lv_iconst (v := (-1 : Int32)) hx hb d_M_release_136 (by decide) ?_
              refine x_cv (w2 := fun u137 => (wd_M qM cI cZ cL u137)) [0, 1, 2, 3, 4, 5, 6, 7, 8, 9, 10, 11, 12, 13, 14, 15, 16, 17, 18, 19, 20, 21] [] [0, 1, 2, 3, 4, 5, 6, 7, 8, 9, 10, 11, 12, 13, 14, 15, 16, 17, 18, 19, 20, 21] (va_runV (As := [.int v4_, .int (2 : Int32), .int (-1 : Int32)]) (rest := []) ⟨hx, hb, hml, hown, hts⟩ (c_M_become l dC dI cI cZ cL qM _ xM_ v4_ (2 : Int32) (-1 : Int32) _ hw) (cwV 3 hts (x_gV k_682 k_684 k_13 k_30 k_685) rfl rfl rfl (by decide +kernel) ⟨Nat.le_of_ble_eq_true rfl, Nat.le_of_ble_eq_true rfl⟩) ⟨x_blind, va_recv hK hP (ci := 4) (q0 := 0) rfl rfl, fun U hU hW => x_pre (isC := [0, 1, 2, 3, 4, 5, 6, 7, 8, 9, 10, 11, 12, 13, 14, 15, 16, 17, 18, 19, 20, 21]) hK hP hD rfl rfl hU hW⟩ rfl rfl hl.1 rfl (lv_room (Nat.le_of_ble_eq_true rfl)) d_M_release_137 ⟨Nat.le_of_ble_eq_true rfl, Nat.le_of_ble_eq_true rfl⟩) hP hD hS hA rfl rfl rfl (by decide) (fun _ => rfl) rfl (fun u137 H locs hw hP hD hS => ?_)
              obtain ⟨v3_140, ev3_140⟩ : ∃ y : Int32, y = v3_ + 1 := ⟨_, rfl⟩
              have hw := hw v3_140 ev3_140
              refine lv_iinc (v := v3_140) (lv' := [(3, .int v3_140), (0, .ref (qM 0)), (1, .int a1), (2, .int a2), (4, .int v4_), (5, .int v5_)]) hx hb d_M_release_140 hl (k := 3) rfl (by rw [ev3_140]; rfl) (by decide) rfl (fun ls hl => ?_)
              refine lv_goto (tgt := 48) hx hb d_M_release_143 (by decide) ?_
              exact ih48 u137 v3_140 v4_ _ _ _ hw hP hD hS (lv_sub hl [1, 2, 3, 0, 4] rfl)
          · have hw := hw.2 c70
            refine lv_aload_n hx hb d_M_release_73 rfl (lv_at hl 0 rfl) ?_
            refine va_get (D := (dC, dI)) (ci := 4) (v := .ref (qM 9)) (C := "ReleaseRowsModel") (T := T_M) (N := 27) hx hb hts in_M hown hK hP 0 rfl rfl 8 (by decide) (hts _ k_584) (fun _ h9 => h9) rfl d_M_release_74 ?_
            refine lv_iload hx hb d_M_release_77 (lv_at hl 5 rfl) ?_
            obtain ⟨h79, hw⟩ := hw
            refine va_iald hx hb hK hP 5 0 rfl rfl h79 d_M_release_79 ?_
            refine lv_iconst (v := (1 : Int32)) hx hb d_M_release_80 (by decide) ?_
            refine lv_icmp_ne (tgt := 121) hx hb d_M_release_81 (by decide) (fun c81 => ?_) (fun c81 => ?_)
            · have hw := hw.1 c81
              exact jn121 xM_ v3_ v4_ v5_ _ _ _ hw hP hD hS hl
            · have hw := hw.2 c81
              refine lv_aload_n hx hb d_M_release_84 rfl (lv_at hl 0 rfl) ?_
              refine va_get (D := (dC, dI)) (ci := 4) (v := .ref (qM 10)) (C := "ReleaseRowsModel") (T := T_M) (N := 27) hx hb hts in_M hown hK hP 0 rfl rfl 9 (by decide) (hts _ k_585) (fun _ h9 => h9) rfl d_M_release_85 ?_
              refine lv_iload hx hb d_M_release_88 (lv_at hl 5 rfl) ?_
              obtain ⟨h90, hw⟩ := hw
              refine va_iald hx hb hK hP 6 0 rfl rfl h90 d_M_release_90 ?_
              refine lv_iload_n hx hb d_M_release_91 rfl (lv_at hl 1 rfl) ?_
              refine lv_icmp_ne (tgt := 121) hx hb d_M_release_92 (by decide) (fun c92 => ?_) (fun c92 => ?_)
              · have hw := hw.1 c92
                exact jn121 xM_ v3_ v4_ v5_ _ _ _ hw hP hD hS hl
              · have hw := hw.2 c92
                refine lv_iload hx hb d_M_release_95 (lv_at hl 4 rfl) ?_
                refine lv_if_lt (tgt := 117) hx hb d_M_release_97 (by decide) (fun c97 => ?_) (fun c97 => ?_)
                · have hw := hw.1 c97
                  exact jn117 xM_ v3_ v5_ _ _ _ hw hP hD hS (lv_sub hl [0, 1, 2, 3, 5] rfl)
                · have hw := hw.2 c97
                  refine lv_aload_n hx hb d_M_release_100 rfl (lv_at hl 0 rfl) ?_
                  refine va_get (D := (dC, dI)) (ci := 4) (v := .ref (qM 5)) (C := "ReleaseRowsModel") (T := T_M) (N := 27) hx hb hts in_M hown hK hP 0 rfl rfl 4 (by decide) (hts _ k_580) (fun _ h9 => h9) rfl d_M_release_101 ?_
                  refine lv_iload hx hb d_M_release_104 (lv_at hl 5 rfl) ?_
                  obtain ⟨h106, hw⟩ := hw
                  refine va_iald hx hb hK hP 1 0 rfl rfl h106 d_M_release_106 ?_
                  refine lv_aload_n hx hb d_M_release_107 rfl (lv_at hl 0 rfl) ?_
                  refine va_get (D := (dC, dI)) (ci := 4) (v := .ref (qM 5)) (C := "ReleaseRowsModel") (T := T_M) (N := 27) hx hb hts in_M hown hK hP 0 rfl rfl 4 (by decide) (hts _ k_580) (fun _ h9 => h9) rfl d_M_release_108 ?_
                  refine lv_iload hx hb d_M_release_111 (lv_at hl 4 rfl) ?_
                  obtain ⟨h113, hw⟩ := hw
                  refine va_iald hx hb hK hP 1 0 rfl rfl h113 d_M_release_113 ?_
                  refine lv_icmp_le (tgt := 121) hx hb d_M_release_114 (by decide) (fun c114 => ?_) (fun c114 => ?_)
                  · have hw := hw.1 c114
                    exact jn121 xM_ v3_ v4_ v5_ _ _ _ hw hP hD hS hl
                  · have hw := hw.2 c114
                    exact jn117 xM_ v3_ v5_ _ _ _ hw hP hD hS (lv_sub hl [0, 1, 2, 3, 5] rfl)
      intro xM_ v3_ v4_ H locs ls hw hP hD hS hl
      unfold wl_M_release_48 at hw
      refine lv_iload_n hx hb d_M_release_48 rfl (lv_at hl 3 rfl) ?_
      refine lv_iload_n hx hb d_M_release_49 rfl (lv_at hl 2 rfl) ?_
      refine lv_icmp_ge (tgt := 146) hx hb d_M_release_50 (by decide) (fun c50 => ?_) (fun c50 => ?_)
      · have hw := hw.1 c50
        exact jn146 xM_ v3_ _ _ _ hw hP hD hS (lv_sub hl [0, 3] rfl)
      · have hw := hw.2 c50
        refine lv_iload hx hb d_M_release_53 (lv_at hl 4 rfl) ?_
        refine lv_if_lt (tgt := 146) hx hb d_M_release_55 (by decide) (fun c55 => ?_) (fun c55 => ?_)
        · have hw := hw.1 c55
          exact jn146 xM_ v3_ _ _ _ hw hP hD hS (lv_sub hl [0, 3] rfl)
        · have hw := hw.2 c55
          refine lv_iconst (v := (-1 : Int32)) hx hb d_M_release_58 (by decide) ?_
          refine lv_istore (lv' := [(4, .int (-1 : Int32)), (0, .ref (qM 0)), (1, .int a1), (2, .int a2), (3, .int v3_)]) hx hb d_M_release_59 hl (by decide) rfl (fun ls hl => ?_)
          refine lv_iconst (v := (0 : Int32)) hx hb d_M_release_61 (by decide) ?_
          refine lv_istore (lv' := [(5, .int (0 : Int32)), (4, .int (-1 : Int32)), (0, .ref (qM 0)), (1, .int a1), (2, .int a2), (3, .int v3_)]) hx hb d_M_release_62 hl (by decide) rfl (fun ls hl => ?_)
          obtain ⟨n9, hw⟩ := hw
          exact lp64 n9 xM_ v3_ (-1 : Int32) (0 : Int32) _ _ _ hw hP hD hS (lv_sub hl [2, 3, 4, 5, 1, 0] rfl)
  have jn29 : ∀ (xM_ : St) (s0_ : Int32) (s1_ : Int32) (H : Heap) (locs : List Loc) (ls : Array Slot), wj_M_release_29 xM a1 a2 post xM_ s0_ s1_ → va_P (dC, dI) vwCl (wd_M qM cI cZ cL xM_) H → va_D A (wd_M qM cI cZ cL xM_) → va_S A s.heap H locs → lv_has ls 6 [(0, .ref (qM 0)), (1, .int a1), (2, .int a2)] → W p l e (headSpec w_M_release ({ frames := 4, cells := 0, slots := 0, locals := 90 } : Room)).room s m ([.ref (qM 0), .int a1, .int a2] : List Value).toArray below meth c H locs 0 0 Q (F0 m 29 ls [.int s0_, .int s1_, .ref (qM 0)]) := by
    intro xM_ s0_ s1_ H locs ls hw hP hD hS hl
    unfold wj_M_release_29 at hw
    refine lv_aload_n hx hb d_M_release_29 rfl (lv_at hl 0 rfl) ?_
    refine lv_iload_n hx hb d_M_release_30 rfl (lv_at hl 1 rfl) ?_
    refine x_ci (w2 := fun _ => (wd_M qM cI cZ cL xM_)) [0, 1, 2, 3, 4, 5, 6, 7, 8, 9, 10, 11, 12, 13, 14, 15, 16, 17, 18, 19, 20, 21] [] [0, 1, 2, 3, 4, 5, 6, 7, 8, 9, 10, 11, 12, 13, 14, 15, 16, 17, 18, 19, 20, 21] (va_runV (As := [.int a1]) (rest := [.int s0_, .int s1_, .ref (qM 0)]) ⟨hx, hb, hml, hown, hts⟩ (c_M_isShut l dC dI cI cZ cL qM _ xM_ a1 _ hw) (cwV 1 hts (x_gV k_752 k_754 k_24 k_30 k_755) rfl rfl rfl (by decide +kernel) ⟨Nat.le_of_ble_eq_true rfl, Nat.le_of_ble_eq_true rfl⟩) ⟨x_blind, va_recv hK hP (ci := 4) (q0 := 0) rfl rfl, fun U hU hW => x_pre (isC := [0, 1, 2, 3, 4, 5, 6, 7, 8, 9, 10, 11, 12, 13, 14, 15, 16, 17, 18, 19, 20, 21]) hK hP hD rfl rfl hU hW⟩ rfl rfl hl.1 rfl (lv_room (Nat.le_of_ble_eq_true rfl)) d_M_release_31 ⟨Nat.le_of_ble_eq_true rfl, Nat.le_of_ble_eq_true rfl⟩) hP hD hS hA rfl rfl rfl (by decide) (fun _ => rfl) rfl (fun r31 _ H locs hw hP hD hS => ?_)
    refine lv_iconst (v := (0 : Int32)) hx hb d_M_release_34 (by decide) ?_
    refine x_ci (w2 := fun u35 => (wd_M qM cI cZ cL u35)) [0, 1, 2, 3, 4, 5, 6, 7, 8, 9, 10, 11, 12, 13, 14, 15, 16, 17, 18, 19, 20, 21] [] [0, 1, 2, 3, 4, 5, 6, 7, 8, 9, 10, 11, 12, 13, 14, 15, 16, 17, 18, 19, 20, 21] (va_runV (As := [.int s1_, .int s0_, .int r31, .int (0 : Int32)]) (rest := []) ⟨hx, hb, hml, hown, hts⟩ (c_M_throwing l dC dI cI cZ cL qM _ xM_ s1_ s0_ r31 (0 : Int32) _ hw) (cwV 4 hts (x_gV k_670 k_672 k_10 k_30 k_673) rfl rfl rfl (by decide +kernel) ⟨Nat.le_of_ble_eq_true rfl, Nat.le_of_ble_eq_true rfl⟩) ⟨x_blind, va_recv hK hP (ci := 4) (q0 := 0) rfl rfl, fun U hU hW => x_pre (isC := [0, 1, 2, 3, 4, 5, 6, 7, 8, 9, 10, 11, 12, 13, 14, 15, 16, 17, 18, 19, 20, 21]) hK hP hD rfl rfl hU hW⟩ rfl rfl hl.1 rfl (lv_room (Nat.le_of_ble_eq_true rfl)) d_M_release_35 ⟨Nat.le_of_ble_eq_true rfl, Nat.le_of_ble_eq_true rfl⟩) hP hD hS hA rfl rfl rfl (by decide) (fun _ => rfl) rfl (fun r35 u35 H locs hw hP hD hS => ?_)
    refine lv_if_eq (tgt := 43) hx hb d_M_release_38 (by decide) (fun c38 => ?_) (fun c38 => ?_)
    · have hw := hw.1 c38
      refine lv_iconst (v := (0 : Int32)) hx hb d_M_release_43 (by decide) ?_
      refine lv_istore_n (lv' := [(3, .int (0 : Int32)), (0, .ref (qM 0)), (1, .int a1), (2, .int a2)]) hx hb d_M_release_44 rfl hl (by decide) rfl (fun ls hl => ?_)
      refine lv_iconst (v := (0 : Int32)) hx hb d_M_release_45 (by decide) ?_
      refine lv_istore (lv' := [(4, .int (0 : Int32)), (3, .int (0 : Int32)), (0, .ref (qM 0)), (1, .int a1), (2, .int a2)]) hx hb d_M_release_46 hl (by decide) rfl (fun ls hl => ?_)
      obtain ⟨n9, hw⟩ := hw
      exact lp48 n9 u35 (0 : Int32) (0 : Int32) _ _ _ hw hP hD hS (lv_sub hl [2, 3, 4, 1, 0] rfl)
    · have hw := hw.2 c38
      refine lv_iconst (v := (0 : Int32)) hx hb d_M_release_41 (by decide) ?_
      exact hret (0 : Int32) u35 _ _ _ _ _ _ rfl hw hP hD hS (Nat.le_of_ble_eq_true rfl) (Nat.le_of_ble_eq_true rfl) d_M_release_42
  have jn14 : ∀ (xM_ : St) (s0_ : Int32) (H : Heap) (locs : List Loc) (ls : Array Slot), wj_M_release_14 xM a1 a2 post xM_ s0_ → va_P (dC, dI) vwCl (wd_M qM cI cZ cL xM_) H → va_D A (wd_M qM cI cZ cL xM_) → va_S A s.heap H locs → lv_has ls 6 [(0, .ref (qM 0)), (1, .int a1), (2, .int a2)] → W p l e (headSpec w_M_release ({ frames := 4, cells := 0, slots := 0, locals := 90 } : Room)).room s m ([.ref (qM 0), .int a1, .int a2] : List Value).toArray below meth c H locs 0 0 Q (F0 m 14 ls [.int s0_, .ref (qM 0)]) := by
    intro xM_ s0_ H locs ls hw hP hD hS hl
    unfold wj_M_release_14 at hw
    refine lv_iload_n hx hb d_M_release_14 rfl (lv_at hl 2 rfl) ?_
    refine lv_iconst (v := (1 : Int32)) hx hb d_M_release_15 (by decide) ?_
    refine lv_bipush (v := (24 : Int32)) hx hb d_M_release_16 (by decide) ?_
    refine x_ci (w2 := fun _ => (wd_M qM cI cZ cL xM_)) [] [0, 1, 2, 3, 4, 5, 6, 7, 8, 9, 10, 11, 12, 13, 14, 15, 16, 17, 18, 19, 20, 21] [0, 1, 2, 3, 4, 5, 6, 7, 8, 9, 10, 11, 12, 13, 14, 15, 16, 17, 18, 19, 20, 21] (va_runS (As := [.int a2, .int (1 : Int32), .int (24 : Int32)]) (rest := [.int s0_, .ref (qM 0)]) ⟨hx, hb, hml, hown, hts⟩ (c_M_in l dC dI cI cZ cL  _ a2 (1 : Int32) (24 : Int32) _ hw) (cwS 3 hts (x_gS k_667 k_668 k_30 k_669) rfl rfl rfl (by decide +kernel) ⟨Nat.le_of_ble_eq_true rfl, Nat.le_of_ble_eq_true rfl⟩) ⟨x_blind, fun U hU hW => x_pre (isC := []) hK hP hD rfl rfl hU hW⟩ rfl rfl hl.1 rfl (lv_room (Nat.le_of_ble_eq_true rfl)) d_M_release_18 ⟨Nat.le_of_ble_eq_true rfl, Nat.le_of_ble_eq_true rfl⟩) hP hD hS hA rfl rfl rfl (by decide) (fun _ => rfl) rfl (fun r18 _ H locs hw hP hD hS => ?_)
    refine lv_if_ne (tgt := 28) hx hb d_M_release_21 (by decide) (fun c21 => ?_) (fun c21 => ?_)
    · have hw := hw.1 c21
      refine lv_iconst (v := (0 : Int32)) hx hb d_M_release_28 (by decide) ?_
      exact jn29 xM_ (0 : Int32) s0_ _ _ _ hw hP hD hS hl
    · have hw := hw.2 c21
      refine lv_iconst (v := (1 : Int32)) hx hb d_M_release_24 (by decide) ?_
      refine lv_goto (tgt := 29) hx hb d_M_release_25 (by decide) ?_
      exact jn29 xM_ (1 : Int32) s0_ _ _ _ hw hP hD hS hl
  unfold wp_M_release at hw
  refine lv_aload_n hx hb d_M_release_0 rfl (lv_at hl 0 rfl) ?_
  refine lv_aload_n hx hb d_M_release_1 rfl (lv_at hl 0 rfl) ?_
  refine lv_iload_n hx hb d_M_release_2 rfl (lv_at hl 1 rfl) ?_
  refine x_ci (w2 := fun _ => (wd_M qM cI cZ cL xM)) [0, 1, 2, 3, 4, 5, 6, 7, 8, 9, 10, 11, 12, 13, 14, 15, 16, 17, 18, 19, 20, 21] [] [0, 1, 2, 3, 4, 5, 6, 7, 8, 9, 10, 11, 12, 13, 14, 15, 16, 17, 18, 19, 20, 21] (va_runV (As := [.int a1]) (rest := [.ref (qM 0)]) ⟨hx, hb, hml, hown, hts⟩ (c_M_isIncident l dC dI cI cZ cL qM _ xM a1 _ hw) (cwV 1 hts (x_gV k_744 k_746 k_23 k_30 k_747) rfl rfl rfl (by decide +kernel) ⟨Nat.le_of_ble_eq_true rfl, Nat.le_of_ble_eq_true rfl⟩) ⟨x_blind, va_recv hK hP (ci := 4) (q0 := 0) rfl rfl, fun U hU hW => x_pre (isC := [0, 1, 2, 3, 4, 5, 6, 7, 8, 9, 10, 11, 12, 13, 14, 15, 16, 17, 18, 19, 20, 21]) hK hP hD rfl rfl hU hW⟩ rfl rfl hl.1 rfl (lv_room (Nat.le_of_ble_eq_true rfl)) d_M_release_3 ⟨Nat.le_of_ble_eq_true rfl, Nat.le_of_ble_eq_true rfl⟩) hP hD hS hA rfl rfl rfl (by decide) (fun _ => rfl) rfl (fun r3 _ H locs hw hP hD hS => ?_)
  refine lv_if_ne (tgt := 13) hx hb d_M_release_6 (by decide) (fun c6 => ?_) (fun c6 => ?_)
  · have hw := hw.1 c6
    refine lv_iconst (v := (0 : Int32)) hx hb d_M_release_13 (by decide) ?_
    exact jn14 xM (0 : Int32) _ _ _ hw hP hD hS hl
  · have hw := hw.2 c6
    refine lv_iconst (v := (1 : Int32)) hx hb d_M_release_9 (by decide) ?_
    refine lv_goto (tgt := 14) hx hb d_M_release_10 (by decide) ?_
    exact jn14 xM (1 : Int32) _ _ _ hw hP hD hS hl

def wj_M_back_35 (xM : St) (a1 : Int32) (post : St → Prop) (xM_ : St) (s0_ : Int32) (s1_ : Int32) : Prop := wp_M_throwing xM_ s1_ s0_ (0 : Int32) (0 : Int32) (fun r37 u37 => ((r37 = 0 → (wp_M_become u37 a1 (3 : Int32) (-1 : Int32) (fun u48 => (wp_M_settle u48 (fun r52 u52 => (post u52)))))) ∧ (¬ r37 = 0 → (post u37))))
def wj_M_back_34 (xM : St) (a1 : Int32) (post : St → Prop) (xM_ : St) (s0_ : Int32) : Prop := wj_M_back_35 xM a1 post xM_ (0 : Int32) s0_
def wj_M_back_13 (xM : St) (a1 : Int32) (post : St → Prop) (xM_ : St) (s0_ : Int32) : Prop := (¬ s0_ = 0 → (wj_M_back_34 xM a1 post xM_ s0_)) ∧ (s0_ = 0 → (vp_in a1 24 ∧ (((xM_.1 8 a1.toNatClampNeg) = (2 : Int32) → (wj_M_back_34 xM a1 post xM_ s0_)) ∧ (¬ (xM_.1 8 a1.toNatClampNeg) = (2 : Int32) → (wj_M_back_35 xM a1 post xM_ (1 : Int32) s0_)))))
def wp_M_back (xM : St) (a1 : Int32) (post : St → Prop) : Prop := wp_M_isUnit xM a1 (fun r2 _ => ((¬ r2 = 0 → (wj_M_back_13 xM a1 post xM (0 : Int32))) ∧ (r2 = 0 → (wj_M_back_13 xM a1 post xM (1 : Int32)))))
set_option maxHeartbeats 4000000 in
set_option maxRecDepth 100000 in
theorem c_M_back (l : Launch) (dC : Nat → ClassId) (dI : Nat → Nat → Nat) (cI cZ cL : ClassId) (qM : Nat → Nat) (sz : Nat) (xM : St) (a1 : Int32) (post : St → Prop) (hw : wp_M_back xM a1 post) : Met l y_M_back w_M_back ({ frames := 4, cells := 0, slots := 0, locals := 90 } : Room) (va_Pc [.ref (qM 0), .int a1] (xP (dC, dI) vwCl [(cI, .int), (cZ, .boolean), (cL, .long)] (wd_M qM cI cZ cL xM) sz)) (va_Qv post (xB (dC, dI) vwCl [(cI, .int), (cZ, .boolean), (cL, .long)] (va_A (wd_M qM cI cZ cL xM) sz) (fun u => (wd_M qM cI cZ cL u))) (va_A (wd_M qM cI cZ cL xM) sz)) 0 0 (va_A (wd_M qM cI cZ cL xM) sz) := by
  refine x_ofV (cc := b_M_back) (maxL := 3) (by decide) rfl (Nat.le_of_ble_eq_true rfl) (fun p e s m below meth c A Q hx hb hml hts hown hin hK hA hP hD hS hret ls hl => ?_)
  have hl : lv_has ls 3 [(0, .ref (qM 0)), (1, .int a1)] := hl
  have jn35 : ∀ (xM_ : St) (s0_ : Int32) (s1_ : Int32) (H : Heap) (locs : List Loc) (ls : Array Slot), wj_M_back_35 xM a1 post xM_ s0_ s1_ → va_P (dC, dI) vwCl (wd_M qM cI cZ cL xM_) H → va_D A (wd_M qM cI cZ cL xM_) → va_S A s.heap H locs → lv_has ls 3 [(0, .ref (qM 0)), (1, .int a1)] → W p l e (headSpec w_M_back ({ frames := 4, cells := 0, slots := 0, locals := 90 } : Room)).room s m ([.ref (qM 0), .int a1] : List Value).toArray below meth c H locs 0 0 Q (F0 m 35 ls [.int s0_, .int s1_, .ref (qM 0)]) := by
    intro xM_ s0_ s1_ H locs ls hw hP hD hS hl
    unfold wj_M_back_35 at hw
    refine lv_iconst (v := (0 : Int32)) hx hb d_M_back_35 (by decide) ?_
    refine lv_iconst (v := (0 : Int32)) hx hb d_M_back_36 (by decide) ?_
    refine x_ci (w2 := fun u37 => (wd_M qM cI cZ cL u37)) [0, 1, 2, 3, 4, 5, 6, 7, 8, 9, 10, 11, 12, 13, 14, 15, 16, 17, 18, 19, 20, 21] [] [0, 1, 2, 3, 4, 5, 6, 7, 8, 9, 10, 11, 12, 13, 14, 15, 16, 17, 18, 19, 20, 21] (va_runV (As := [.int s1_, .int s0_, .int (0 : Int32), .int (0 : Int32)]) (rest := []) ⟨hx, hb, hml, hown, hts⟩ (c_M_throwing l dC dI cI cZ cL qM _ xM_ s1_ s0_ (0 : Int32) (0 : Int32) _ hw) (cwV 4 hts (x_gV k_670 k_672 k_10 k_30 k_673) rfl rfl rfl (by decide +kernel) ⟨Nat.le_of_ble_eq_true rfl, Nat.le_of_ble_eq_true rfl⟩) ⟨x_blind, va_recv hK hP (ci := 4) (q0 := 0) rfl rfl, fun U hU hW => x_pre (isC := [0, 1, 2, 3, 4, 5, 6, 7, 8, 9, 10, 11, 12, 13, 14, 15, 16, 17, 18, 19, 20, 21]) hK hP hD rfl rfl hU hW⟩ rfl rfl hl.1 rfl (lv_room (Nat.le_of_ble_eq_true rfl)) d_M_back_37 ⟨Nat.le_of_ble_eq_true rfl, Nat.le_of_ble_eq_true rfl⟩) hP hD hS hA rfl rfl rfl (by decide) (fun _ => rfl) rfl (fun r37 u37 H locs hw hP hD hS => ?_)
    refine lv_if_eq (tgt := 44) hx hb d_M_back_40 (by decide) (fun c40 => ?_) (fun c40 => ?_)
    · have hw := hw.1 c40
      refine lv_aload_n hx hb d_M_back_44 rfl (lv_at hl 0 rfl) ?_
      refine lv_iload_n hx hb d_M_back_45 rfl (lv_at hl 1 rfl) ?_
      refine lv_iconst (v := (3 : Int32)) hx hb d_M_back_46 (by decide) ?_
      refine lv_iconst (v := (-1 : Int32)) hx hb d_M_back_47 (by decide) ?_
      refine x_cv (w2 := fun u48 => (wd_M qM cI cZ cL u48)) [0, 1, 2, 3, 4, 5, 6, 7, 8, 9, 10, 11, 12, 13, 14, 15, 16, 17, 18, 19, 20, 21] [] [0, 1, 2, 3, 4, 5, 6, 7, 8, 9, 10, 11, 12, 13, 14, 15, 16, 17, 18, 19, 20, 21] (va_runV (As := [.int a1, .int (3 : Int32), .int (-1 : Int32)]) (rest := []) ⟨hx, hb, hml, hown, hts⟩ (c_M_become l dC dI cI cZ cL qM _ u37 a1 (3 : Int32) (-1 : Int32) _ hw) (cwV 3 hts (x_gV k_682 k_684 k_13 k_30 k_685) rfl rfl rfl (by decide +kernel) ⟨Nat.le_of_ble_eq_true rfl, Nat.le_of_ble_eq_true rfl⟩) ⟨x_blind, va_recv hK hP (ci := 4) (q0 := 0) rfl rfl, fun U hU hW => x_pre (isC := [0, 1, 2, 3, 4, 5, 6, 7, 8, 9, 10, 11, 12, 13, 14, 15, 16, 17, 18, 19, 20, 21]) hK hP hD rfl rfl hU hW⟩ rfl rfl hl.1 rfl (lv_room (Nat.le_of_ble_eq_true rfl)) d_M_back_48 ⟨Nat.le_of_ble_eq_true rfl, Nat.le_of_ble_eq_true rfl⟩) hP hD hS hA rfl rfl rfl (by decide) (fun _ => rfl) rfl (fun u48 H locs hw hP hD hS => ?_)
      refine lv_aload_n hx hb d_M_back_51 rfl (lv_at hl 0 rfl) ?_
      refine x_ci (w2 := fun u52 => (wd_M qM cI cZ cL u52)) [0, 1, 2, 3, 4, 5, 6, 7, 8, 9, 10, 11, 12, 13, 14, 15, 16, 17, 18, 19, 20, 21] [] [0, 1, 2, 3, 4, 5, 6, 7, 8, 9, 10, 11, 12, 13, 14, 15, 16, 17, 18, 19, 20, 21] (va_runV (As := []) (rest := []) ⟨hx, hb, hml, hown, hts⟩ (c_M_settle l dC dI cI cZ cL qM _ u48 _ hw) (cwV 0 hts (x_gV k_674 k_676 k_11 k_30 k_677) rfl rfl rfl (by decide +kernel) ⟨Nat.le_of_ble_eq_true rfl, Nat.le_of_ble_eq_true rfl⟩) ⟨x_blind, va_recv hK hP (ci := 4) (q0 := 0) rfl rfl, fun U hU hW => x_pre (isC := [0, 1, 2, 3, 4, 5, 6, 7, 8, 9, 10, 11, 12, 13, 14, 15, 16, 17, 18, 19, 20, 21]) hK hP hD rfl rfl hU hW⟩ rfl rfl hl.1 rfl (lv_room (Nat.le_of_ble_eq_true rfl)) d_M_back_52 ⟨Nat.le_of_ble_eq_true rfl, Nat.le_of_ble_eq_true rfl⟩) hP hD hS hA rfl rfl rfl (by decide) (fun _ => rfl) rfl (fun r52 u52 H locs hw hP hD hS => ?_)
      refine lv_pop hx hb d_M_back_55 rfl ?_
      exact hret u52 _ _ _ _ _ _ hw hP hD hS (Nat.le_of_ble_eq_true rfl) (Nat.le_of_ble_eq_true rfl) d_M_back_56
    · have hw := hw.2 c40
      exact hret u37 _ _ _ _ _ _ hw hP hD hS (Nat.le_of_ble_eq_true rfl) (Nat.le_of_ble_eq_true rfl) d_M_back_43
  have jn34 : ∀ (xM_ : St) (s0_ : Int32) (H : Heap) (locs : List Loc) (ls : Array Slot), wj_M_back_34 xM a1 post xM_ s0_ → va_P (dC, dI) vwCl (wd_M qM cI cZ cL xM_) H → va_D A (wd_M qM cI cZ cL xM_) → va_S A s.heap H locs → lv_has ls 3 [(0, .ref (qM 0)), (1, .int a1)] → W p l e (headSpec w_M_back ({ frames := 4, cells := 0, slots := 0, locals := 90 } : Room)).room s m ([.ref (qM 0), .int a1] : List Value).toArray below meth c H locs 0 0 Q (F0 m 34 ls [.int s0_, .ref (qM 0)]) := by
    intro xM_ s0_ H locs ls hw hP hD hS hl
    unfold wj_M_back_34 at hw
    refine lv_iconst (v := (0 : Int32)) hx hb d_M_back_34 (by decide) ?_
    exact jn35 xM_ (0 : Int32) s0_ _ _ _ hw hP hD hS hl
  have jn13 : ∀ (xM_ : St) (s0_ : Int32) (H : Heap) (locs : List Loc) (ls : Array Slot), wj_M_back_13 xM a1 post xM_ s0_ → va_P (dC, dI) vwCl (wd_M qM cI cZ cL xM_) H → va_D A (wd_M qM cI cZ cL xM_) → va_S A s.heap H locs → lv_has ls 3 [(0, .ref (qM 0)), (1, .int a1)] → W p l e (headSpec w_M_back ({ frames := 4, cells := 0, slots := 0, locals := 90 } : Room)).room s m ([.ref (qM 0), .int a1] : List Value).toArray below meth c H locs 0 0 Q (F0 m 13 ls [.int s0_]) := by
    intro xM_ s0_ H locs ls hw hP hD hS hl
    unfold wj_M_back_13 at hw
    refine lv_istore_n (lv' := [(2, .int s0_), (0, .ref (qM 0)), (1, .int a1)]) hx hb d_M_back_13 rfl hl (by decide) rfl (fun ls hl => ?_)
    refine lv_aload_n hx hb d_M_back_14 rfl (lv_at hl 1 rfl) ?_
    refine lv_iload_n hx hb d_M_back_15 rfl (lv_at hl 0 rfl) ?_
    refine lv_iload_n hx hb d_M_back_16 rfl (lv_at hl 0 rfl) ?_
    refine lv_if_ne (tgt := 34) hx hb d_M_back_17 (by decide) (fun c17 => ?_) (fun c17 => ?_)
    · have hw := hw.1 c17
      exact jn34 xM_ s0_ _ _ _ hw hP hD hS (lv_sub hl [1, 2] rfl)
    · have hw := hw.2 c17
      refine lv_aload_n hx hb d_M_back_20 rfl (lv_at hl 1 rfl) ?_
      refine va_get (D := (dC, dI)) (ci := 4) (v := .ref (qM 9)) (C := "ReleaseRowsModel") (T := T_M) (N := 27) hx hb hts in_M hown hK hP 0 rfl rfl 8 (by decide) (hts _ k_584) (fun _ h9 => h9) rfl d_M_back_21 ?_
      refine lv_iload_n hx hb d_M_back_24 rfl (lv_at hl 2 rfl) ?_
      obtain ⟨h25, hw⟩ := hw
      refine va_iald hx hb hK hP 5 0 rfl rfl h25 d_M_back_25 ?_
      refine lv_iconst (v := (2 : Int32)) hx hb d_M_back_26 (by decide) ?_
      refine lv_icmp_eq (tgt := 34) hx hb d_M_back_27 (by decide) (fun c27 => ?_) (fun c27 => ?_)
      · have hw := hw.1 c27
        exact jn34 xM_ s0_ _ _ _ hw hP hD hS (lv_sub hl [1, 2] rfl)
      · have hw := hw.2 c27
        refine lv_iconst (v := (1 : Int32)) hx hb d_M_back_30 (by decide) ?_
        refine lv_goto (tgt := 35) hx hb d_M_back_31 (by decide) ?_
        exact jn35 xM_ (1 : Int32) s0_ _ _ _ hw hP hD hS (lv_sub hl [1, 2] rfl)
  unfold wp_M_back at hw
  refine lv_aload_n hx hb d_M_back_0 rfl (lv_at hl 0 rfl) ?_
  refine lv_iload_n hx hb d_M_back_1 rfl (lv_at hl 1 rfl) ?_
  refine x_ci (w2 := fun _ => (wd_M qM cI cZ cL xM)) [0, 1, 2, 3, 4, 5, 6, 7, 8, 9, 10, 11, 12, 13, 14, 15, 16, 17, 18, 19, 20, 21] [] [0, 1, 2, 3, 4, 5, 6, 7, 8, 9, 10, 11, 12, 13, 14, 15, 16, 17, 18, 19, 20, 21] (va_runV (As := [.int a1]) (rest := []) ⟨hx, hb, hml, hown, hts⟩ (c_M_isUnit l dC dI cI cZ cL qM _ xM a1 _ hw) (cwV 1 hts (x_gV k_718 k_720 k_21 k_30 k_721) rfl rfl rfl (by decide +kernel) ⟨Nat.le_of_ble_eq_true rfl, Nat.le_of_ble_eq_true rfl⟩) ⟨x_blind, va_recv hK hP (ci := 4) (q0 := 0) rfl rfl, fun U hU hW => x_pre (isC := [0, 1, 2, 3, 4, 5, 6, 7, 8, 9, 10, 11, 12, 13, 14, 15, 16, 17, 18, 19, 20, 21]) hK hP hD rfl rfl hU hW⟩ rfl rfl hl.1 rfl (lv_room (Nat.le_of_ble_eq_true rfl)) d_M_back_2 ⟨Nat.le_of_ble_eq_true rfl, Nat.le_of_ble_eq_true rfl⟩) hP hD hS hA rfl rfl rfl (by decide) (fun _ => rfl) rfl (fun r2 _ H locs hw hP hD hS => ?_)
  refine lv_if_ne (tgt := 12) hx hb d_M_back_5 (by decide) (fun c5 => ?_) (fun c5 => ?_)
  · have hw := hw.1 c5
    refine lv_iconst (v := (0 : Int32)) hx hb d_M_back_12 (by decide) ?_
    exact jn13 xM (0 : Int32) _ _ _ hw hP hD hS hl
  · have hw := hw.2 c5
    refine lv_iconst (v := (1 : Int32)) hx hb d_M_back_8 (by decide) ?_
    refine lv_goto (tgt := 13) hx hb d_M_back_9 (by decide) ?_
    exact jn13 xM (1 : Int32) _ _ _ hw hP hD hS hl

def wj_M_use_112 (xM : St) (a1 : Int32) (a2 : Int32) (a3 : Int32) (post : Int32 → St → Prop) (xM_ : St) (s0_ : Int32) (s1_ : Int32) (s2_ : Int32) (s3_ : Int32) : Prop := wp_M_throwing xM_ s3_ s2_ s1_ s0_ (fun r112 u112 => ((r112 = 0 → (vp_in (((6 : Int32) * a1) + a2) 144 ∧ (vp_in (((6 : Int32) * a1) + a2) 144 ∧ (vp_in (((6 : Int32) * a1) + a2) 144 ∧ (post ((sA u112 13 (((6 : Int32) * a1) + a2).toNatClampNeg ((u112.1 13 (((6 : Int32) * a1) + a2).toNatClampNeg) + a3)).1 13 (((6 : Int32) * a1) + a2).toNatClampNeg) (sA u112 13 (((6 : Int32) * a1) + a2).toNatClampNeg ((u112.1 13 (((6 : Int32) * a1) + a2).toNatClampNeg) + a3))))))) ∧ (¬ r112 = 0 → (post (0 : Int32) u112))))
def wj_M_use_111 (xM : St) (a1 : Int32) (a2 : Int32) (a3 : Int32) (post : Int32 → St → Prop) (xM_ : St) (s0_ : Int32) (s1_ : Int32) (s2_ : Int32) : Prop := wj_M_use_112 xM a1 a2 a3 post xM_ (0 : Int32) s0_ s1_ s2_
def wj_M_use_70 (xM : St) (a1 : Int32) (a2 : Int32) (a3 : Int32) (post : Int32 → St → Prop) (xM_ : St) (s0_ : Int32) (v4_ : Int32) (v5_ : Int32) : Prop := (¬ v4_ = 0 → (wj_M_use_111 xM a1 a2 a3 post xM_ s0_ v5_ v4_)) ∧ (v4_ = 0 → ((¬ v5_ = 0 → (wj_M_use_111 xM a1 a2 a3 post xM_ s0_ v5_ v4_)) ∧ (v5_ = 0 → (vp_in (((6 : Int32) * a1) + a2) 144 ∧ ((((xM_.1 13 (((6 : Int32) * a1) + a2).toNatClampNeg) + a3) ≤ (100000 : Int32) → (wj_M_use_111 xM a1 a2 a3 post xM_ s0_ v5_ v4_)) ∧ (¬ ((xM_.1 13 (((6 : Int32) * a1) + a2).toNatClampNeg) + a3) ≤ (100000 : Int32) → (wj_M_use_112 xM a1 a2 a3 post xM_ (1 : Int32) s0_ v5_ v4_)))))))
def wj_M_use_69 (xM : St) (a1 : Int32) (a2 : Int32) (a3 : Int32) (post : Int32 → St → Prop) (xM_ : St) (v4_ : Int32) (v5_ : Int32) : Prop := wj_M_use_70 xM a1 a2 a3 post xM_ (0 : Int32) v4_ v5_
def wj_M_use_38 (xM : St) (a1 : Int32) (a2 : Int32) (a3 : Int32) (post : Int32 → St → Prop) (xM_ : St) (s0_ : Int32) (v4_ : Int32) : Prop := (¬ v4_ = 0 → (wj_M_use_69 xM a1 a2 a3 post xM_ v4_ s0_)) ∧ (v4_ = 0 → (vp_in a1 24 ∧ (((xM_.1 8 a1.toNatClampNeg) = (1 : Int32) → (wj_M_use_69 xM a1 a2 a3 post xM_ v4_ s0_)) ∧ (¬ (xM_.1 8 a1.toNatClampNeg) = (1 : Int32) → (vp_in a1 24 ∧ (((xM_.1 8 a1.toNatClampNeg) = (2 : Int32) → (wj_M_use_69 xM a1 a2 a3 post xM_ v4_ s0_)) ∧ (¬ (xM_.1 8 a1.toNatClampNeg) = (2 : Int32) → (wj_M_use_70 xM a1 a2 a3 post xM_ (1 : Int32) v4_ s0_))))))))
def wj_M_use_20 (xM : St) (a1 : Int32) (a2 : Int32) (a3 : Int32) (post : Int32 → St → Prop) (xM_ : St) (s0_ : Int32) : Prop := wp_M_in a3 (1 : Int32) (1000 : Int32) (fun r27 _ => ((¬ r27 = 0 → (wj_M_use_38 xM a1 a2 a3 post xM_ (0 : Int32) s0_)) ∧ (r27 = 0 → (wj_M_use_38 xM a1 a2 a3 post xM_ (1 : Int32) s0_))))
def wj_M_use_15 (xM : St) (a1 : Int32) (a2 : Int32) (a3 : Int32) (post : Int32 → St → Prop) (xM_ : St) : Prop := wj_M_use_20 xM a1 a2 a3 post xM_ (1 : Int32)
def wp_M_use (xM : St) (a1 : Int32) (a2 : Int32) (a3 : Int32) (post : Int32 → St → Prop) : Prop := wp_M_isUnit xM a1 (fun r2 _ => ((r2 = 0 → (wj_M_use_15 xM a1 a2 a3 post xM)) ∧ (¬ r2 = 0 → (wp_M_isGood a2 (fun r9 _ => ((¬ r9 = 0 → (wj_M_use_20 xM a1 a2 a3 post xM (0 : Int32))) ∧ (r9 = 0 → (wj_M_use_15 xM a1 a2 a3 post xM))))))))
set_option maxHeartbeats 4000000 in
set_option maxRecDepth 100000 in
theorem c_M_use (l : Launch) (dC : Nat → ClassId) (dI : Nat → Nat → Nat) (cI cZ cL : ClassId) (qM : Nat → Nat) (sz : Nat) (xM : St) (a1 : Int32) (a2 : Int32) (a3 : Int32) (post : Int32 → St → Prop) (hw : wp_M_use xM a1 a2 a3 post) : Met l y_M_use w_M_use ({ frames := 2, cells := 0, slots := 0, locals := 43 } : Room) (va_Pc [.ref (qM 0), .int a1, .int a2, .int a3] (xP (dC, dI) vwCl [(cI, .int), (cZ, .boolean), (cL, .long)] (wd_M qM cI cZ cL xM) sz)) (va_Qi post (xB (dC, dI) vwCl [(cI, .int), (cZ, .boolean), (cL, .long)] (va_A (wd_M qM cI cZ cL xM) sz) (fun u => (wd_M qM cI cZ cL u))) (va_A (wd_M qM cI cZ cL xM) sz)) 0 0 (va_A (wd_M qM cI cZ cL xM) sz) := by
  refine x_ofI (cc := b_M_use) (maxL := 7) (by decide) rfl (Nat.le_of_ble_eq_true rfl) (fun p e s m below meth c A Q hx hb hml hts hown hK hA hP hD hS hret ls hl => ?_)
  have hl : lv_has ls 7 [(0, .ref (qM 0)), (1, .int a1), (2, .int a2), (3, .int a3)] := hl
  have jn112 : ∀ (xM_ : St) (s0_ : Int32) (s1_ : Int32) (s2_ : Int32) (s3_ : Int32) (H : Heap) (locs : List Loc) (ls : Array Slot), wj_M_use_112 xM a1 a2 a3 post xM_ s0_ s1_ s2_ s3_ → va_P (dC, dI) vwCl (wd_M qM cI cZ cL xM_) H → va_D A (wd_M qM cI cZ cL xM_) → va_S A s.heap H locs → lv_has ls 7 [(0, .ref (qM 0)), (1, .int a1), (2, .int a2), (3, .int a3)] → W p l e (headSpec w_M_use ({ frames := 2, cells := 0, slots := 0, locals := 43 } : Room)).room s m ([.ref (qM 0), .int a1, .int a2, .int a3] : List Value).toArray below meth c H locs 0 0 Q (F0 m 112 ls [.int s0_, .int s1_, .int s2_, .int s3_, .ref (qM 0)]) := by
    intro xM_ s0_ s1_ s2_ s3_ H locs ls hw hP hD hS hl
    unfold wj_M_use_112 at hw
    refine x_ci (w2 := fun u112 => (wd_M qM cI cZ cL u112)) [0, 1, 2, 3, 4, 5, 6, 7, 8, 9, 10, 11, 12, 13, 14, 15, 16, 17, 18, 19, 20, 21] [] [0, 1, 2, 3, 4, 5, 6, 7, 8, 9, 10, 11, 12, 13, 14, 15, 16, 17, 18, 19, 20, 21] (va_runV (As := [.int s3_, .int s2_, .int s1_, .int s0_]) (rest := []) ⟨hx, hb, hml, hown, hts⟩ (c_M_throwing l dC dI cI cZ cL qM _ xM_ s3_ s2_ s1_ s0_ _ hw) (cwV 4 hts (x_gV k_670 k_672 k_10 k_30 k_673) rfl rfl rfl (by decide +kernel) ⟨Nat.le_of_ble_eq_true rfl, Nat.le_of_ble_eq_true rfl⟩) ⟨x_blind, va_recv hK hP (ci := 4) (q0 := 0) rfl rfl, fun U hU hW => x_pre (isC := [0, 1, 2, 3, 4, 5, 6, 7, 8, 9, 10, 11, 12, 13, 14, 15, 16, 17, 18, 19, 20, 21]) hK hP hD rfl rfl hU hW⟩ rfl rfl hl.1 rfl (lv_room (Nat.le_of_ble_eq_true rfl)) d_M_use_112 ⟨Nat.le_of_ble_eq_true rfl, Nat.le_of_ble_eq_true rfl⟩) hP hD hS hA rfl rfl rfl (by decide) (fun _ => rfl) rfl (fun r112 u112 H locs hw hP hD hS => ?_)
    refine lv_if_eq (tgt := 120) hx hb d_M_use_115 (by decide) (fun c115 => ?_) (fun c115 => ?_)
    · have hw := hw.1 c115
      refine lv_aload_n hx hb d_M_use_120 rfl (lv_at hl 0 rfl) ?_
      refine va_get (D := (dC, dI)) (ci := 4) (v := .ref (qM 14)) (C := "ReleaseRowsModel") (T := T_M) (N := 27) hx hb hts in_M hown hK hP 0 rfl rfl 13 (by decide) (hts _ k_589) (fun _ h9 => h9) rfl d_M_use_121 ?_
      refine lv_bipush (v := (6 : Int32)) hx hb d_M_use_124 (by decide) ?_
      refine lv_iload_n hx hb d_M_use_126 rfl (lv_at hl 1 rfl) ?_
      refine lv_imul hx hb d_M_use_127 ?_
      refine lv_iload_n hx hb d_M_use_128 rfl (lv_at hl 2 rfl) ?_
      refine lv_iadd hx hb d_M_use_129 ?_
      refine lv_dup2_11 hx hb d_M_use_130 rfl rfl ?_
      obtain ⟨h131, hw⟩ := hw
      refine va_iald hx hb hK hP 10 0 rfl rfl h131 d_M_use_131 ?_
      refine lv_iload_n hx hb d_M_use_132 rfl (lv_at hl 3 rfl) ?_
      refine lv_iadd hx hb d_M_use_133 ?_
      obtain ⟨h134, hw⟩ := hw
      refine va_iast hx hb hK hP hD hS 10 0 rfl rfl h134 d_M_use_134 (fun H locs hP hD hS => ?_)
      have hP := wsP_M_M13 hP
      have hD := wsD_M_M13 hD
      refine lv_aload_n hx hb d_M_use_135 rfl (lv_at hl 0 rfl) ?_
      refine va_get (D := (dC, dI)) (ci := 4) (v := .ref (qM 14)) (C := "ReleaseRowsModel") (T := T_M) (N := 27) hx hb hts in_M hown hK hP 0 rfl rfl 13 (by decide) (hts _ k_589) (fun _ h9 => h9) rfl d_M_use_136 ?_
      refine lv_bipush (v := (6 : Int32)) hx hb d_M_use_139 (by decide) ?_
      refine lv_iload_n hx hb d_M_use_141 rfl (lv_at hl 1 rfl) ?_
      refine lv_imul hx hb d_M_use_142 ?_
      refine lv_iload_n hx hb d_M_use_143 rfl (lv_at hl 2 rfl) ?_
      refine lv_iadd hx hb d_M_use_144 ?_
      obtain ⟨h145, hw⟩ := hw
      refine va_iald hx hb hK hP 10 0 rfl rfl h145 d_M_use_145 ?_
      exact hret ((sA u112 13 (((6 : Int32) * a1) + a2).toNatClampNeg ((u112.1 13 (((6 : Int32) * a1) + a2).toNatClampNeg) + a3)).1 13 (((6 : Int32) * a1) + a2).toNatClampNeg) (sA u112 13 (((6 : Int32) * a1) + a2).toNatClampNeg ((u112.1 13 (((6 : Int32) * a1) + a2).toNatClampNeg) + a3)) _ _ _ _ _ _ rfl hw hP hD hS (Nat.le_of_ble_eq_true rfl) (Nat.le_of_ble_eq_true rfl) d_M_use_146
    · have hw := hw.2 c115
      refine lv_iconst (v := (0 : Int32)) hx hb d_M_use_118 (by decide) ?_
      exact hret (0 : Int32) u112 _ _ _ _ _ _ rfl hw hP hD hS (Nat.le_of_ble_eq_true rfl) (Nat.le_of_ble_eq_true rfl) d_M_use_119
  have jn111 : ∀ (xM_ : St) (s0_ : Int32) (s1_ : Int32) (s2_ : Int32) (H : Heap) (locs : List Loc) (ls : Array Slot), wj_M_use_111 xM a1 a2 a3 post xM_ s0_ s1_ s2_ → va_P (dC, dI) vwCl (wd_M qM cI cZ cL xM_) H → va_D A (wd_M qM cI cZ cL xM_) → va_S A s.heap H locs → lv_has ls 7 [(0, .ref (qM 0)), (1, .int a1), (2, .int a2), (3, .int a3)] → W p l e (headSpec w_M_use ({ frames := 2, cells := 0, slots := 0, locals := 43 } : Room)).room s m ([.ref (qM 0), .int a1, .int a2, .int a3] : List Value).toArray below meth c H locs 0 0 Q (F0 m 111 ls [.int s0_, .int s1_, .int s2_, .ref (qM 0)]) := by
    intro xM_ s0_ s1_ s2_ H locs ls hw hP hD hS hl
    unfold wj_M_use_111 at hw
    refine lv_iconst (v := (0 : Int32)) hx hb d_M_use_111 (by decide) ?_
    exact jn112 xM_ (0 : Int32) s0_ s1_ s2_ _ _ _ hw hP hD hS hl
  have jn70 : ∀ (xM_ : St) (s0_ : Int32) (v4_ : Int32) (v5_ : Int32) (H : Heap) (locs : List Loc) (ls : Array Slot), wj_M_use_70 xM a1 a2 a3 post xM_ s0_ v4_ v5_ → va_P (dC, dI) vwCl (wd_M qM cI cZ cL xM_) H → va_D A (wd_M qM cI cZ cL xM_) → va_S A s.heap H locs → lv_has ls 7 [(0, .ref (qM 0)), (1, .int a1), (2, .int a2), (3, .int a3), (4, .int v4_), (5, .int v5_)] → W p l e (headSpec w_M_use ({ frames := 2, cells := 0, slots := 0, locals := 43 } : Room)).room s m ([.ref (qM 0), .int a1, .int a2, .int a3] : List Value).toArray below meth c H locs 0 0 Q (F0 m 70 ls [.int s0_]) := by
    intro xM_ s0_ v4_ v5_ H locs ls hw hP hD hS hl
    unfold wj_M_use_70 at hw
    refine lv_istore (lv' := [(6, .int s0_), (0, .ref (qM 0)), (1, .int a1), (2, .int a2), (3, .int a3), (4, .int v4_), (5, .int v5_)]) hx hb d_M_use_70 hl (by decide) rfl (fun ls hl => ?_)
    refine lv_aload_n hx hb d_M_use_72 rfl (lv_at hl 1 rfl) ?_
    refine lv_iload hx hb d_M_use_73 (lv_at hl 5 rfl) ?_
    refine lv_iload hx hb d_M_use_75 (lv_at hl 6 rfl) ?_
    refine lv_iload hx hb d_M_use_77 (lv_at hl 0 rfl) ?_
    refine lv_iload hx hb d_M_use_79 (lv_at hl 5 rfl) ?_
    refine lv_if_ne (tgt := 111) hx hb d_M_use_81 (by decide) (fun c81 => ?_) (fun c81 => ?_)
    · have hw := hw.1 c81
      exact jn111 xM_ s0_ v5_ v4_ _ _ _ hw hP hD hS (lv_sub hl [1, 2, 3, 4] rfl)
    · have hw := hw.2 c81
      refine lv_iload hx hb d_M_use_84 (lv_at hl 6 rfl) ?_
      refine lv_if_ne (tgt := 111) hx hb d_M_use_86 (by decide) (fun c86 => ?_) (fun c86 => ?_)
      · have hw := hw.1 c86
        exact jn111 xM_ s0_ v5_ v4_ _ _ _ hw hP hD hS (lv_sub hl [1, 2, 3, 4] rfl)
      · have hw := hw.2 c86
        refine lv_aload_n hx hb d_M_use_89 rfl (lv_at hl 1 rfl) ?_
        refine va_get (D := (dC, dI)) (ci := 4) (v := .ref (qM 14)) (C := "ReleaseRowsModel") (T := T_M) (N := 27) hx hb hts in_M hown hK hP 0 rfl rfl 13 (by decide) (hts _ k_589) (fun _ h9 => h9) rfl d_M_use_90 ?_
        refine lv_bipush (v := (6 : Int32)) hx hb d_M_use_93 (by decide) ?_
        refine lv_iload_n hx hb d_M_use_95 rfl (lv_at hl 2 rfl) ?_
        refine lv_imul hx hb d_M_use_96 ?_
        refine lv_iload_n hx hb d_M_use_97 rfl (lv_at hl 3 rfl) ?_
        refine lv_iadd hx hb d_M_use_98 ?_
        obtain ⟨h99, hw⟩ := hw
        refine va_iald hx hb hK hP 10 0 rfl rfl h99 d_M_use_99 ?_
        refine lv_iload_n hx hb d_M_use_100 rfl (lv_at hl 4 rfl) ?_
        refine lv_iadd hx hb d_M_use_101 ?_
        refine lv_ldc (v := (100000 : Int32)) hx hb hown (hts _ k_726) d_M_use_102 ?_
        refine lv_icmp_le (tgt := 111) hx hb d_M_use_104 (by decide) (fun c104 => ?_) (fun c104 => ?_)
        · have hw := hw.1 c104
          exact jn111 xM_ s0_ v5_ v4_ _ _ _ hw hP hD hS (lv_sub hl [1, 2, 3, 4] rfl)
        · have hw := hw.2 c104
          refine lv_iconst (v := (1 : Int32)) hx hb d_M_use_107 (by decide) ?_
          refine lv_goto (tgt := 112) hx hb d_M_use_108 (by decide) ?_
          exact jn112 xM_ (1 : Int32) s0_ v5_ v4_ _ _ _ hw hP hD hS (lv_sub hl [1, 2, 3, 4] rfl)
  have jn69 : ∀ (xM_ : St) (v4_ : Int32) (v5_ : Int32) (H : Heap) (locs : List Loc) (ls : Array Slot), wj_M_use_69 xM a1 a2 a3 post xM_ v4_ v5_ → va_P (dC, dI) vwCl (wd_M qM cI cZ cL xM_) H → va_D A (wd_M qM cI cZ cL xM_) → va_S A s.heap H locs → lv_has ls 7 [(0, .ref (qM 0)), (1, .int a1), (2, .int a2), (3, .int a3), (4, .int v4_), (5, .int v5_)] → W p l e (headSpec w_M_use ({ frames := 2, cells := 0, slots := 0, locals := 43 } : Room)).room s m ([.ref (qM 0), .int a1, .int a2, .int a3] : List Value).toArray below meth c H locs 0 0 Q (F0 m 69 ls []) := by
    intro xM_ v4_ v5_ H locs ls hw hP hD hS hl
    unfold wj_M_use_69 at hw
    refine lv_iconst (v := (0 : Int32)) hx hb d_M_use_69 (by decide) ?_
    exact jn70 xM_ (0 : Int32) v4_ v5_ _ _ _ hw hP hD hS hl
  have jn38 : ∀ (xM_ : St) (s0_ : Int32) (v4_ : Int32) (H : Heap) (locs : List Loc) (ls : Array Slot), wj_M_use_38 xM a1 a2 a3 post xM_ s0_ v4_ → va_P (dC, dI) vwCl (wd_M qM cI cZ cL xM_) H → va_D A (wd_M qM cI cZ cL xM_) → va_S A s.heap H locs → lv_has ls 7 [(0, .ref (qM 0)), (1, .int a1), (2, .int a2), (3, .int a3), (4, .int v4_)] → W p l e (headSpec w_M_use ({ frames := 2, cells := 0, slots := 0, locals := 43 } : Room)).room s m ([.ref (qM 0), .int a1, .int a2, .int a3] : List Value).toArray below meth c H locs 0 0 Q (F0 m 38 ls [.int s0_]) := by
    intro xM_ s0_ v4_ H locs ls hw hP hD hS hl
    unfold wj_M_use_38 at hw
    refine lv_istore (lv' := [(5, .int s0_), (0, .ref (qM 0)), (1, .int a1), (2, .int a2), (3, .int a3), (4, .int v4_)]) hx hb d_M_use_38 hl (by decide) rfl (fun ls hl => ?_)
    refine lv_iload hx hb d_M_use_40 (lv_at hl 5 rfl) ?_
    refine lv_if_ne (tgt := 69) hx hb d_M_use_42 (by decide) (fun c42 => ?_) (fun c42 => ?_)
    · have hw := hw.1 c42
      exact jn69 xM_ v4_ s0_ _ _ _ hw hP hD hS (lv_sub hl [1, 2, 3, 4, 5, 0] rfl)
    · have hw := hw.2 c42
      refine lv_aload_n hx hb d_M_use_45 rfl (lv_at hl 1 rfl) ?_
      refine va_get (D := (dC, dI)) (ci := 4) (v := .ref (qM 9)) (C := "ReleaseRowsModel") (T := T_M) (N := 27) hx hb hts in_M hown hK hP 0 rfl rfl 8 (by decide) (hts _ k_584) (fun _ h9 => h9) rfl d_M_use_46 ?_
      refine lv_iload_n hx hb d_M_use_49 rfl (lv_at hl 2 rfl) ?_
      obtain ⟨h50, hw⟩ := hw
      refine va_iald hx hb hK hP 5 0 rfl rfl h50 d_M_use_50 ?_
      refine lv_iconst (v := (1 : Int32)) hx hb d_M_use_51 (by decide) ?_
      refine lv_icmp_eq (tgt := 69) hx hb d_M_use_52 (by decide) (fun c52 => ?_) (fun c52 => ?_)
      · have hw := hw.1 c52
        exact jn69 xM_ v4_ s0_ _ _ _ hw hP hD hS (lv_sub hl [1, 2, 3, 4, 5, 0] rfl)
      · have hw := hw.2 c52
        refine lv_aload_n hx hb d_M_use_55 rfl (lv_at hl 1 rfl) ?_
        refine va_get (D := (dC, dI)) (ci := 4) (v := .ref (qM 9)) (C := "ReleaseRowsModel") (T := T_M) (N := 27) hx hb hts in_M hown hK hP 0 rfl rfl 8 (by decide) (hts _ k_584) (fun _ h9 => h9) rfl d_M_use_56 ?_
        refine lv_iload_n hx hb d_M_use_59 rfl (lv_at hl 2 rfl) ?_
        obtain ⟨h60, hw⟩ := hw
        refine va_iald hx hb hK hP 5 0 rfl rfl h60 d_M_use_60 ?_
        refine lv_iconst (v := (2 : Int32)) hx hb d_M_use_61 (by decide) ?_
        refine lv_icmp_eq (tgt := 69) hx hb d_M_use_62 (by decide) (fun c62 => ?_) (fun c62 => ?_)
        · have hw := hw.1 c62
          exact jn69 xM_ v4_ s0_ _ _ _ hw hP hD hS (lv_sub hl [1, 2, 3, 4, 5, 0] rfl)
        · have hw := hw.2 c62
          refine lv_iconst (v := (1 : Int32)) hx hb d_M_use_65 (by decide) ?_
          refine lv_goto (tgt := 70) hx hb d_M_use_66 (by decide) ?_
          exact jn70 xM_ (1 : Int32) v4_ s0_ _ _ _ hw hP hD hS (lv_sub hl [1, 2, 3, 4, 5, 0] rfl)
  have jn20 : ∀ (xM_ : St) (s0_ : Int32) (H : Heap) (locs : List Loc) (ls : Array Slot), wj_M_use_20 xM a1 a2 a3 post xM_ s0_ → va_P (dC, dI) vwCl (wd_M qM cI cZ cL xM_) H → va_D A (wd_M qM cI cZ cL xM_) → va_S A s.heap H locs → lv_has ls 7 [(0, .ref (qM 0)), (1, .int a1), (2, .int a2), (3, .int a3)] → W p l e (headSpec w_M_use ({ frames := 2, cells := 0, slots := 0, locals := 43 } : Room)).room s m ([.ref (qM 0), .int a1, .int a2, .int a3] : List Value).toArray below meth c H locs 0 0 Q (F0 m 20 ls [.int s0_]) := by
    intro xM_ s0_ H locs ls hw hP hD hS hl
    unfold wj_M_use_20 at hw
    refine lv_istore (lv' := [(4, .int s0_), (0, .ref (qM 0)), (1, .int a1), (2, .int a2), (3, .int a3)]) hx hb d_M_use_20 hl (by decide) rfl (fun ls hl => ?_)
    refine lv_iload_n hx hb d_M_use_22 rfl (lv_at hl 4 rfl) ?_
    refine lv_iconst (v := (1 : Int32)) hx hb d_M_use_23 (by decide) ?_
    refine lv_sipush (v := (1000 : Int32)) hx hb d_M_use_24 (by decide) ?_
    refine x_ci (w2 := fun _ => (wd_M qM cI cZ cL xM_)) [] [0, 1, 2, 3, 4, 5, 6, 7, 8, 9, 10, 11, 12, 13, 14, 15, 16, 17, 18, 19, 20, 21] [0, 1, 2, 3, 4, 5, 6, 7, 8, 9, 10, 11, 12, 13, 14, 15, 16, 17, 18, 19, 20, 21] (va_runS (As := [.int a3, .int (1 : Int32), .int (1000 : Int32)]) (rest := []) ⟨hx, hb, hml, hown, hts⟩ (c_M_in l dC dI cI cZ cL  _ a3 (1 : Int32) (1000 : Int32) _ hw) (cwS 3 hts (x_gS k_667 k_668 k_30 k_669) rfl rfl rfl (by decide +kernel) ⟨Nat.le_of_ble_eq_true rfl, Nat.le_of_ble_eq_true rfl⟩) ⟨x_blind, fun U hU hW => x_pre (isC := []) hK hP hD rfl rfl hU hW⟩ rfl rfl hl.1 rfl (lv_room (Nat.le_of_ble_eq_true rfl)) d_M_use_27 ⟨Nat.le_of_ble_eq_true rfl, Nat.le_of_ble_eq_true rfl⟩) hP hD hS hA rfl rfl rfl (by decide) (fun _ => rfl) rfl (fun r27 _ H locs hw hP hD hS => ?_)
    refine lv_if_ne (tgt := 37) hx hb d_M_use_30 (by decide) (fun c30 => ?_) (fun c30 => ?_)
    · have hw := hw.1 c30
      refine lv_iconst (v := (0 : Int32)) hx hb d_M_use_37 (by decide) ?_
      exact jn38 xM_ (0 : Int32) s0_ _ _ _ hw hP hD hS (lv_sub hl [1, 2, 3, 4, 0] rfl)
    · have hw := hw.2 c30
      refine lv_iconst (v := (1 : Int32)) hx hb d_M_use_33 (by decide) ?_
      refine lv_goto (tgt := 38) hx hb d_M_use_34 (by decide) ?_
      exact jn38 xM_ (1 : Int32) s0_ _ _ _ hw hP hD hS (lv_sub hl [1, 2, 3, 4, 0] rfl)
  have jn15 : ∀ (xM_ : St) (H : Heap) (locs : List Loc) (ls : Array Slot), wj_M_use_15 xM a1 a2 a3 post xM_ → va_P (dC, dI) vwCl (wd_M qM cI cZ cL xM_) H → va_D A (wd_M qM cI cZ cL xM_) → va_S A s.heap H locs → lv_has ls 7 [(0, .ref (qM 0)), (1, .int a1), (2, .int a2), (3, .int a3)] → W p l e (headSpec w_M_use ({ frames := 2, cells := 0, slots := 0, locals := 43 } : Room)).room s m ([.ref (qM 0), .int a1, .int a2, .int a3] : List Value).toArray below meth c H locs 0 0 Q (F0 m 15 ls []) := by
    intro xM_ H locs ls hw hP hD hS hl
    unfold wj_M_use_15 at hw
    refine lv_iconst (v := (1 : Int32)) hx hb d_M_use_15 (by decide) ?_
    refine lv_goto (tgt := 20) hx hb d_M_use_16 (by decide) ?_
    exact jn20 xM_ (1 : Int32) _ _ _ hw hP hD hS hl
  unfold wp_M_use at hw
  refine lv_aload_n hx hb d_M_use_0 rfl (lv_at hl 0 rfl) ?_
  refine lv_iload_n hx hb d_M_use_1 rfl (lv_at hl 1 rfl) ?_
  refine x_ci (w2 := fun _ => (wd_M qM cI cZ cL xM)) [0, 1, 2, 3, 4, 5, 6, 7, 8, 9, 10, 11, 12, 13, 14, 15, 16, 17, 18, 19, 20, 21] [] [0, 1, 2, 3, 4, 5, 6, 7, 8, 9, 10, 11, 12, 13, 14, 15, 16, 17, 18, 19, 20, 21] (va_runV (As := [.int a1]) (rest := []) ⟨hx, hb, hml, hown, hts⟩ (c_M_isUnit l dC dI cI cZ cL qM _ xM a1 _ hw) (cwV 1 hts (x_gV k_718 k_720 k_21 k_30 k_721) rfl rfl rfl (by decide +kernel) ⟨Nat.le_of_ble_eq_true rfl, Nat.le_of_ble_eq_true rfl⟩) ⟨x_blind, va_recv hK hP (ci := 4) (q0 := 0) rfl rfl, fun U hU hW => x_pre (isC := [0, 1, 2, 3, 4, 5, 6, 7, 8, 9, 10, 11, 12, 13, 14, 15, 16, 17, 18, 19, 20, 21]) hK hP hD rfl rfl hU hW⟩ rfl rfl hl.1 rfl (lv_room (Nat.le_of_ble_eq_true rfl)) d_M_use_2 ⟨Nat.le_of_ble_eq_true rfl, Nat.le_of_ble_eq_true rfl⟩) hP hD hS hA rfl rfl rfl (by decide) (fun _ => rfl) rfl (fun r2 _ H locs hw hP hD hS => ?_)
  refine lv_if_eq (tgt := 15) hx hb d_M_use_5 (by decide) (fun c5 => ?_) (fun c5 => ?_)
  · have hw := hw.1 c5
    exact jn15 xM _ _ _ hw hP hD hS hl
  · have hw := hw.2 c5
    refine lv_iload_n hx hb d_M_use_8 rfl (lv_at hl 2 rfl) ?_
    refine x_ci (w2 := fun _ => (wd_M qM cI cZ cL xM)) [] [0, 1, 2, 3, 4, 5, 6, 7, 8, 9, 10, 11, 12, 13, 14, 15, 16, 17, 18, 19, 20, 21] [0, 1, 2, 3, 4, 5, 6, 7, 8, 9, 10, 11, 12, 13, 14, 15, 16, 17, 18, 19, 20, 21] (va_runS (As := [.int a2]) (rest := []) ⟨hx, hb, hml, hown, hts⟩ (c_M_isGood l dC dI cI cZ cL  _ a2 _ hw) (cwS 1 hts (x_gS k_764 k_765 k_30 k_766) rfl rfl rfl (by decide +kernel) ⟨Nat.le_of_ble_eq_true rfl, Nat.le_of_ble_eq_true rfl⟩) ⟨x_blind, fun U hU hW => x_pre (isC := []) hK hP hD rfl rfl hU hW⟩ rfl rfl hl.1 rfl (lv_room (Nat.le_of_ble_eq_true rfl)) d_M_use_9 ⟨Nat.le_of_ble_eq_true rfl, Nat.le_of_ble_eq_true rfl⟩) hP hD hS hA rfl rfl rfl (by decide) (fun _ => rfl) rfl (fun r9 _ H locs hw hP hD hS => ?_)
    refine lv_if_ne (tgt := 19) hx hb d_M_use_12 (by decide) (fun c12 => ?_) (fun c12 => ?_)
    · have hw := hw.1 c12
      refine lv_iconst (v := (0 : Int32)) hx hb d_M_use_19 (by decide) ?_
      exact jn20 xM (0 : Int32) _ _ _ hw hP hD hS hl
    · have hw := hw.2 c12
      exact jn15 xM _ _ _ hw hP hD hS hl

def wj_M_deliver_61 (xM : St) (a1 : Int32) (a2 : Int32) (post : Int32 → St → Prop) (xM_ : St) (s0_ : Int32) (s1_ : Int32) (s2_ : Int32) : Prop := wp_M_throwing xM_ s2_ s1_ s0_ (0 : Int32) (fun r62 u62 => ((r62 = 0 → (vp_in a1 6 ∧ (vp_in a1 6 ∧ (vp_in a1 6 ∧ (∀ v5_86 : Int32, v5_86 = ((sA u62 14 a1.toNatClampNeg ((u62.1 14 a1.toNatClampNeg) + a2)).1 14 a1.toNatClampNeg) → (wp_M_settle (sA u62 14 a1.toNatClampNeg ((u62.1 14 a1.toNatClampNeg) + a2)) (fun r89 u89 => (post v5_86 u89)))))))) ∧ (¬ r62 = 0 → (post (0 : Int32) u62))))
def wj_M_deliver_60 (xM : St) (a1 : Int32) (a2 : Int32) (post : Int32 → St → Prop) (xM_ : St) (s0_ : Int32) (s1_ : Int32) : Prop := wj_M_deliver_61 xM a1 a2 post xM_ (0 : Int32) s0_ s1_
def wj_M_deliver_28 (xM : St) (a1 : Int32) (a2 : Int32) (post : Int32 → St → Prop) (xM_ : St) (s0_ : Int32) (v3_ : Int32) : Prop := (¬ v3_ = 0 → (wj_M_deliver_60 xM a1 a2 post xM_ s0_ v3_)) ∧ (v3_ = 0 → ((¬ s0_ = 0 → (wj_M_deliver_60 xM a1 a2 post xM_ s0_ v3_)) ∧ (s0_ = 0 → (vp_in a1 6 ∧ ((((xM_.1 14 a1.toNatClampNeg) + a2) ≤ (10000000 : Int32) → (wj_M_deliver_60 xM a1 a2 post xM_ s0_ v3_)) ∧ (¬ ((xM_.1 14 a1.toNatClampNeg) + a2) ≤ (10000000 : Int32) → (wj_M_deliver_61 xM a1 a2 post xM_ (1 : Int32) s0_ v3_)))))))
def wj_M_deliver_12 (xM : St) (a1 : Int32) (a2 : Int32) (post : Int32 → St → Prop) (xM_ : St) (s0_ : Int32) : Prop := wp_M_in a2 (0 : Int32) (100000 : Int32) (fun r17 _ => ((¬ r17 = 0 → (wj_M_deliver_28 xM a1 a2 post xM_ (0 : Int32) s0_)) ∧ (r17 = 0 → (wj_M_deliver_28 xM a1 a2 post xM_ (1 : Int32) s0_))))
def wp_M_deliver (xM : St) (a1 : Int32) (a2 : Int32) (post : Int32 → St → Prop) : Prop := wp_M_isGood a1 (fun r1 _ => ((¬ r1 = 0 → (wj_M_deliver_12 xM a1 a2 post xM (0 : Int32))) ∧ (r1 = 0 → (wj_M_deliver_12 xM a1 a2 post xM (1 : Int32)))))
set_option maxHeartbeats 4000000 in
set_option maxRecDepth 100000 in
theorem c_M_deliver (l : Launch) (dC : Nat → ClassId) (dI : Nat → Nat → Nat) (cI cZ cL : ClassId) (qM : Nat → Nat) (sz : Nat) (xM : St) (a1 : Int32) (a2 : Int32) (post : Int32 → St → Prop) (hw : wp_M_deliver xM a1 a2 post) : Met l y_M_deliver w_M_deliver ({ frames := 4, cells := 0, slots := 0, locals := 90 } : Room) (va_Pc [.ref (qM 0), .int a1, .int a2] (xP (dC, dI) vwCl [(cI, .int), (cZ, .boolean), (cL, .long)] (wd_M qM cI cZ cL xM) sz)) (va_Qi post (xB (dC, dI) vwCl [(cI, .int), (cZ, .boolean), (cL, .long)] (va_A (wd_M qM cI cZ cL xM) sz) (fun u => (wd_M qM cI cZ cL u))) (va_A (wd_M qM cI cZ cL xM) sz)) 0 0 (va_A (wd_M qM cI cZ cL xM) sz) := by
  refine x_ofI (cc := b_M_deliver) (maxL := 6) (by decide) rfl (Nat.le_of_ble_eq_true rfl) (fun p e s m below meth c A Q hx hb hml hts hown hK hA hP hD hS hret ls hl => ?_)
  have hl : lv_has ls 6 [(0, .ref (qM 0)), (1, .int a1), (2, .int a2)] := hl
  have jn61 : ∀ (xM_ : St) (s0_ : Int32) (s1_ : Int32) (s2_ : Int32) (H : Heap) (locs : List Loc) (ls : Array Slot), wj_M_deliver_61 xM a1 a2 post xM_ s0_ s1_ s2_ → va_P (dC, dI) vwCl (wd_M qM cI cZ cL xM_) H → va_D A (wd_M qM cI cZ cL xM_) → va_S A s.heap H locs → lv_has ls 6 [(0, .ref (qM 0)), (1, .int a1), (2, .int a2)] → W p l e (headSpec w_M_deliver ({ frames := 4, cells := 0, slots := 0, locals := 90 } : Room)).room s m ([.ref (qM 0), .int a1, .int a2] : List Value).toArray below meth c H locs 0 0 Q (F0 m 61 ls [.int s0_, .int s1_, .int s2_, .ref (qM 0)]) := by
    intro xM_ s0_ s1_ s2_ H locs ls hw hP hD hS hl
    unfold wj_M_deliver_61 at hw
    refine lv_iconst (v := (0 : Int32)) hx hb d_M_deliver_61 (by decide) ?_
    refine x_ci (w2 := fun u62 => (wd_M qM cI cZ cL u62)) [0, 1, 2, 3, 4, 5, 6, 7, 8, 9, 10, 11, 12, 13, 14, 15, 16, 17, 18, 19, 20, 21] [] [0, 1, 2, 3, 4, 5, 6, 7, 8, 9, 10, 11, 12, 13, 14, 15, 16, 17, 18, 19, 20, 21] (va_runV (As := [.int s2_, .int s1_, .int s0_, .int (0 : Int32)]) (rest := []) ⟨hx, hb, hml, hown, hts⟩ (c_M_throwing l dC dI cI cZ cL qM _ xM_ s2_ s1_ s0_ (0 : Int32) _ hw) (cwV 4 hts (x_gV k_670 k_672 k_10 k_30 k_673) rfl rfl rfl (by decide +kernel) ⟨Nat.le_of_ble_eq_true rfl, Nat.le_of_ble_eq_true rfl⟩) ⟨x_blind, va_recv hK hP (ci := 4) (q0 := 0) rfl rfl, fun U hU hW => x_pre (isC := [0, 1, 2, 3, 4, 5, 6, 7, 8, 9, 10, 11, 12, 13, 14, 15, 16, 17, 18, 19, 20, 21]) hK hP hD rfl rfl hU hW⟩ rfl rfl hl.1 rfl (lv_room (Nat.le_of_ble_eq_true rfl)) d_M_deliver_62 ⟨Nat.le_of_ble_eq_true rfl, Nat.le_of_ble_eq_true rfl⟩) hP hD hS hA rfl rfl rfl (by decide) (fun _ => rfl) rfl (fun r62 u62 H locs hw hP hD hS => ?_)
    refine lv_if_eq (tgt := 70) hx hb d_M_deliver_65 (by decide) (fun c65 => ?_) (fun c65 => ?_)
    · have hw := hw.1 c65
      refine lv_aload_n hx hb d_M_deliver_70 rfl (lv_at hl 0 rfl) ?_
      refine va_get (D := (dC, dI)) (ci := 4) (v := .ref (qM 15)) (C := "ReleaseRowsModel") (T := T_M) (N := 27) hx hb hts in_M hown hK hP 0 rfl rfl 14 (by decide) (hts _ k_590) (fun _ h9 => h9) rfl d_M_deliver_71 ?_
      refine lv_iload_n hx hb d_M_deliver_74 rfl (lv_at hl 1 rfl) ?_
      refine lv_dup2_11 hx hb d_M_deliver_75 rfl rfl ?_
      obtain ⟨h76, hw⟩ := hw
      refine va_iald hx hb hK hP 11 0 rfl rfl h76 d_M_deliver_76 ?_
      refine lv_iload_n hx hb d_M_deliver_77 rfl (lv_at hl 2 rfl) ?_
      refine lv_iadd hx hb d_M_deliver_78 ?_
      obtain ⟨h79, hw⟩ := hw
      refine va_iast hx hb hK hP hD hS 11 0 rfl rfl h79 d_M_deliver_79 (fun H locs hP hD hS => ?_)
      have hP := wsP_M_M14 hP
      have hD := wsD_M_M14 hD
      refine lv_aload_n hx hb d_M_deliver_80 rfl (lv_at hl 0 rfl) ?_
      refine va_get (D := (dC, dI)) (ci := 4) (v := .ref (qM 15)) (C := "ReleaseRowsModel") (T := T_M) (N := 27) hx hb hts in_M hown hK hP 0 rfl rfl 14 (by decide) (hts _ k_590) (fun _ h9 => h9) rfl d_M_deliver_81 ?_
      refine lv_iload_n hx hb d_M_deliver_84 rfl (lv_at hl 1 rfl) ?_
      obtain ⟨h85, hw⟩ := hw
      refine va_iald hx hb hK hP 11 0 rfl rfl h85 d_M_deliver_85 ?_
      refine lv_topi (fun v5_86 ev5_86 => ?_)
      have hw := hw v5_86 ev5_86
      refine lv_istore (lv' := [(5, .int v5_86), (0, .ref (qM 0)), (1, .int a1), (2, .int a2)]) hx hb d_M_deliver_86 hl (by decide) rfl (fun ls hl => ?_)
      refine lv_aload_n hx hb d_M_deliver_88 rfl (lv_at hl 1 rfl) ?_
      refine x_ci (w2 := fun u89 => (wd_M qM cI cZ cL u89)) [0, 1, 2, 3, 4, 5, 6, 7, 8, 9, 10, 11, 12, 13, 14, 15, 16, 17, 18, 19, 20, 21] [] [0, 1, 2, 3, 4, 5, 6, 7, 8, 9, 10, 11, 12, 13, 14, 15, 16, 17, 18, 19, 20, 21] (va_runV (As := []) (rest := []) ⟨hx, hb, hml, hown, hts⟩ (c_M_settle l dC dI cI cZ cL qM _ (sA u62 14 a1.toNatClampNeg ((u62.1 14 a1.toNatClampNeg) + a2)) _ hw) (cwV 0 hts (x_gV k_674 k_676 k_11 k_30 k_677) rfl rfl rfl (by decide +kernel) ⟨Nat.le_of_ble_eq_true rfl, Nat.le_of_ble_eq_true rfl⟩) ⟨x_blind, va_recv hK hP (ci := 4) (q0 := 0) rfl rfl, fun U hU hW => x_pre (isC := [0, 1, 2, 3, 4, 5, 6, 7, 8, 9, 10, 11, 12, 13, 14, 15, 16, 17, 18, 19, 20, 21]) hK hP hD rfl rfl hU hW⟩ rfl rfl hl.1 rfl (lv_room (Nat.le_of_ble_eq_true rfl)) d_M_deliver_89 ⟨Nat.le_of_ble_eq_true rfl, Nat.le_of_ble_eq_true rfl⟩) hP hD hS hA rfl rfl rfl (by decide) (fun _ => rfl) rfl (fun r89 u89 H locs hw hP hD hS => ?_)
      refine lv_pop hx hb d_M_deliver_92 rfl ?_
      refine lv_iload hx hb d_M_deliver_93 (lv_at hl 0 rfl) ?_
      exact hret v5_86 u89 _ _ _ _ _ _ rfl hw hP hD hS (Nat.le_of_ble_eq_true rfl) (Nat.le_of_ble_eq_true rfl) d_M_deliver_95
    · have hw := hw.2 c65
      refine lv_iconst (v := (0 : Int32)) hx hb d_M_deliver_68 (by decide) ?_
      exact hret (0 : Int32) u62 _ _ _ _ _ _ rfl hw hP hD hS (Nat.le_of_ble_eq_true rfl) (Nat.le_of_ble_eq_true rfl) d_M_deliver_69
  have jn60 : ∀ (xM_ : St) (s0_ : Int32) (s1_ : Int32) (H : Heap) (locs : List Loc) (ls : Array Slot), wj_M_deliver_60 xM a1 a2 post xM_ s0_ s1_ → va_P (dC, dI) vwCl (wd_M qM cI cZ cL xM_) H → va_D A (wd_M qM cI cZ cL xM_) → va_S A s.heap H locs → lv_has ls 6 [(0, .ref (qM 0)), (1, .int a1), (2, .int a2)] → W p l e (headSpec w_M_deliver ({ frames := 4, cells := 0, slots := 0, locals := 90 } : Room)).room s m ([.ref (qM 0), .int a1, .int a2] : List Value).toArray below meth c H locs 0 0 Q (F0 m 60 ls [.int s0_, .int s1_, .ref (qM 0)]) := by
    intro xM_ s0_ s1_ H locs ls hw hP hD hS hl
    unfold wj_M_deliver_60 at hw
    refine lv_iconst (v := (0 : Int32)) hx hb d_M_deliver_60 (by decide) ?_
    exact jn61 xM_ (0 : Int32) s0_ s1_ _ _ _ hw hP hD hS hl
  have jn28 : ∀ (xM_ : St) (s0_ : Int32) (v3_ : Int32) (H : Heap) (locs : List Loc) (ls : Array Slot), wj_M_deliver_28 xM a1 a2 post xM_ s0_ v3_ → va_P (dC, dI) vwCl (wd_M qM cI cZ cL xM_) H → va_D A (wd_M qM cI cZ cL xM_) → va_S A s.heap H locs → lv_has ls 6 [(0, .ref (qM 0)), (1, .int a1), (2, .int a2), (3, .int v3_)] → W p l e (headSpec w_M_deliver ({ frames := 4, cells := 0, slots := 0, locals := 90 } : Room)).room s m ([.ref (qM 0), .int a1, .int a2] : List Value).toArray below meth c H locs 0 0 Q (F0 m 28 ls [.int s0_]) := by
    intro xM_ s0_ v3_ H locs ls hw hP hD hS hl
    unfold wj_M_deliver_28 at hw
    refine lv_istore (lv' := [(4, .int s0_), (0, .ref (qM 0)), (1, .int a1), (2, .int a2), (3, .int v3_)]) hx hb d_M_deliver_28 hl (by decide) rfl (fun ls hl => ?_)
    refine lv_aload_n hx hb d_M_deliver_30 rfl (lv_at hl 1 rfl) ?_
    refine lv_iload_n hx hb d_M_deliver_31 rfl (lv_at hl 4 rfl) ?_
    refine lv_iload hx hb d_M_deliver_32 (lv_at hl 0 rfl) ?_
    refine lv_iload_n hx hb d_M_deliver_34 rfl (lv_at hl 4 rfl) ?_
    refine lv_if_ne (tgt := 60) hx hb d_M_deliver_35 (by decide) (fun c35 => ?_) (fun c35 => ?_)
    · have hw := hw.1 c35
      exact jn60 xM_ s0_ v3_ _ _ _ hw hP hD hS (lv_sub hl [1, 2, 3] rfl)
    · have hw := hw.2 c35
      refine lv_iload hx hb d_M_deliver_38 (lv_at hl 0 rfl) ?_
      refine lv_if_ne (tgt := 60) hx hb d_M_deliver_40 (by decide) (fun c40 => ?_) (fun c40 => ?_)
      · have hw := hw.1 c40
        exact jn60 xM_ s0_ v3_ _ _ _ hw hP hD hS (lv_sub hl [1, 2, 3] rfl)
      · have hw := hw.2 c40
        refine lv_aload_n hx hb d_M_deliver_43 rfl (lv_at hl 1 rfl) ?_
        refine va_get (D := (dC, dI)) (ci := 4) (v := .ref (qM 15)) (C := "ReleaseRowsModel") (T := T_M) (N := 27) hx hb hts in_M hown hK hP 0 rfl rfl 14 (by decide) (hts _ k_590) (fun _ h9 => h9) rfl d_M_deliver_44 ?_
        refine lv_iload_n hx hb d_M_deliver_47 rfl (lv_at hl 2 rfl) ?_
        obtain ⟨h48, hw⟩ := hw
        refine va_iald hx hb hK hP 11 0 rfl rfl h48 d_M_deliver_48 ?_
        refine lv_iload_n hx hb d_M_deliver_49 rfl (lv_at hl 3 rfl) ?_
        refine lv_iadd hx hb d_M_deliver_50 ?_
        refine lv_ldc (v := (10000000 : Int32)) hx hb hown (hts _ k_771) d_M_deliver_51 ?_
        refine lv_icmp_le (tgt := 60) hx hb d_M_deliver_53 (by decide) (fun c53 => ?_) (fun c53 => ?_)
        · have hw := hw.1 c53
          exact jn60 xM_ s0_ v3_ _ _ _ hw hP hD hS (lv_sub hl [1, 2, 3] rfl)
        · have hw := hw.2 c53
          refine lv_iconst (v := (1 : Int32)) hx hb d_M_deliver_56 (by decide) ?_
          refine lv_goto (tgt := 61) hx hb d_M_deliver_57 (by decide) ?_
          exact jn61 xM_ (1 : Int32) s0_ v3_ _ _ _ hw hP hD hS (lv_sub hl [1, 2, 3] rfl)
  have jn12 : ∀ (xM_ : St) (s0_ : Int32) (H : Heap) (locs : List Loc) (ls : Array Slot), wj_M_deliver_12 xM a1 a2 post xM_ s0_ → va_P (dC, dI) vwCl (wd_M qM cI cZ cL xM_) H → va_D A (wd_M qM cI cZ cL xM_) → va_S A s.heap H locs → lv_has ls 6 [(0, .ref (qM 0)), (1, .int a1), (2, .int a2)] → W p l e (headSpec w_M_deliver ({ frames := 4, cells := 0, slots := 0, locals := 90 } : Room)).room s m ([.ref (qM 0), .int a1, .int a2] : List Value).toArray below meth c H locs 0 0 Q (F0 m 12 ls [.int s0_]) := by
    intro xM_ s0_ H locs ls hw hP hD hS hl
    unfold wj_M_deliver_12 at hw
    refine lv_istore_n (lv' := [(3, .int s0_), (0, .ref (qM 0)), (1, .int a1), (2, .int a2)]) hx hb d_M_deliver_12 rfl hl (by decide) rfl (fun ls hl => ?_)
    refine lv_iload_n hx hb d_M_deliver_13 rfl (lv_at hl 3 rfl) ?_
    refine lv_iconst (v := (0 : Int32)) hx hb d_M_deliver_14 (by decide) ?_
    refine lv_ldc (v := (100000 : Int32)) hx hb hown (hts _ k_726) d_M_deliver_15 ?_
    refine x_ci (w2 := fun _ => (wd_M qM cI cZ cL xM_)) [] [0, 1, 2, 3, 4, 5, 6, 7, 8, 9, 10, 11, 12, 13, 14, 15, 16, 17, 18, 19, 20, 21] [0, 1, 2, 3, 4, 5, 6, 7, 8, 9, 10, 11, 12, 13, 14, 15, 16, 17, 18, 19, 20, 21] (va_runS (As := [.int a2, .int (0 : Int32), .int (100000 : Int32)]) (rest := []) ⟨hx, hb, hml, hown, hts⟩ (c_M_in l dC dI cI cZ cL  _ a2 (0 : Int32) (100000 : Int32) _ hw) (cwS 3 hts (x_gS k_667 k_668 k_30 k_669) rfl rfl rfl (by decide +kernel) ⟨Nat.le_of_ble_eq_true rfl, Nat.le_of_ble_eq_true rfl⟩) ⟨x_blind, fun U hU hW => x_pre (isC := []) hK hP hD rfl rfl hU hW⟩ rfl rfl hl.1 rfl (lv_room (Nat.le_of_ble_eq_true rfl)) d_M_deliver_17 ⟨Nat.le_of_ble_eq_true rfl, Nat.le_of_ble_eq_true rfl⟩) hP hD hS hA rfl rfl rfl (by decide) (fun _ => rfl) rfl (fun r17 _ H locs hw hP hD hS => ?_)
    refine lv_if_ne (tgt := 27) hx hb d_M_deliver_20 (by decide) (fun c20 => ?_) (fun c20 => ?_)
    · have hw := hw.1 c20
      refine lv_iconst (v := (0 : Int32)) hx hb d_M_deliver_27 (by decide) ?_
      exact jn28 xM_ (0 : Int32) s0_ _ _ _ hw hP hD hS (lv_sub hl [1, 2, 3, 0] rfl)
    · have hw := hw.2 c20
      refine lv_iconst (v := (1 : Int32)) hx hb d_M_deliver_23 (by decide) ?_
      refine lv_goto (tgt := 28) hx hb d_M_deliver_24 (by decide) ?_
      exact jn28 xM_ (1 : Int32) s0_ _ _ _ hw hP hD hS (lv_sub hl [1, 2, 3, 0] rfl)
  unfold wp_M_deliver at hw
  refine lv_iload_n hx hb d_M_deliver_0 rfl (lv_at hl 1 rfl) ?_
  refine x_ci (w2 := fun _ => (wd_M qM cI cZ cL xM)) [] [0, 1, 2, 3, 4, 5, 6, 7, 8, 9, 10, 11, 12, 13, 14, 15, 16, 17, 18, 19, 20, 21] [0, 1, 2, 3, 4, 5, 6, 7, 8, 9, 10, 11, 12, 13, 14, 15, 16, 17, 18, 19, 20, 21] (va_runS (As := [.int a1]) (rest := []) ⟨hx, hb, hml, hown, hts⟩ (c_M_isGood l dC dI cI cZ cL  _ a1 _ hw) (cwS 1 hts (x_gS k_764 k_765 k_30 k_766) rfl rfl rfl (by decide +kernel) ⟨Nat.le_of_ble_eq_true rfl, Nat.le_of_ble_eq_true rfl⟩) ⟨x_blind, fun U hU hW => x_pre (isC := []) hK hP hD rfl rfl hU hW⟩ rfl rfl hl.1 rfl (lv_room (Nat.le_of_ble_eq_true rfl)) d_M_deliver_1 ⟨Nat.le_of_ble_eq_true rfl, Nat.le_of_ble_eq_true rfl⟩) hP hD hS hA rfl rfl rfl (by decide) (fun _ => rfl) rfl (fun r1 _ H locs hw hP hD hS => ?_)
  refine lv_if_ne (tgt := 11) hx hb d_M_deliver_4 (by decide) (fun c4 => ?_) (fun c4 => ?_)
  · have hw := hw.1 c4
    refine lv_iconst (v := (0 : Int32)) hx hb d_M_deliver_11 (by decide) ?_
    exact jn12 xM (0 : Int32) _ _ _ hw hP hD hS hl
  · have hw := hw.2 c4
    refine lv_iconst (v := (1 : Int32)) hx hb d_M_deliver_7 (by decide) ?_
    refine lv_goto (tgt := 12) hx hb d_M_deliver_8 (by decide) ?_
    exact jn12 xM (1 : Int32) _ _ _ hw hP hD hS hl

