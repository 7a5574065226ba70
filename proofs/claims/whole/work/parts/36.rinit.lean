theorem k_44 : Cond.methodLink "ReleaseRows" 1 (⟨"java/lang/Object", "<init>", "()V"⟩ : MethodName) ∈ gG := x_k 44 (by decide +kernel) (by decide +kernel)
theorem k_47 : Cond.classLink "ReleaseRows" 7 "ReleaseRows$UnitRows" ∈ gG := x_k 47 (by decide +kernel) (by decide +kernel)
theorem k_48 : Cond.instantiable "ReleaseRows$UnitRows" 11 ∈ gG := x_k 48 (by decide +kernel) (by decide +kernel)
theorem k_50 : Cond.instanceMethod (⟨"ReleaseRows$UnitRows", "<init>", "()V"⟩ : MethodName) ∈ gG := x_k 50 (by decide +kernel) (by decide +kernel)
theorem k_51 : Cond.code (⟨"ReleaseRows$UnitRows", "<init>", "()V"⟩ : MethodName) prog_3_method_1_code 1 none ∈ gG := x_k 51 (by decide +kernel) (by decide +kernel)
theorem k_96 : Cond.classLink "ReleaseRows" 16 "ReleaseRows$IncidentRows" ∈ gG := x_k 96 (by decide +kernel) (by decide +kernel)
theorem k_97 : Cond.instantiable "ReleaseRows$IncidentRows" 10 ∈ gG := x_k 97 (by decide +kernel) (by decide +kernel)
theorem k_99 : Cond.instanceMethod (⟨"ReleaseRows$IncidentRows", "<init>", "()V"⟩ : MethodName) ∈ gG := x_k 99 (by decide +kernel) (by decide +kernel)
theorem k_100 : Cond.code (⟨"ReleaseRows$IncidentRows", "<init>", "()V"⟩ : MethodName) prog_2_method_1_code 1 none ∈ gG := x_k 100 (by decide +kernel) (by decide +kernel)
theorem k_143 : Cond.classLink "ReleaseRows" 23 "ReleaseRows$WaitingRow" ∈ gG := x_k 143 (by decide +kernel) (by decide +kernel)
theorem k_144 : Cond.instantiable "ReleaseRows$WaitingRow" 2 ∈ gG := x_k 144 (by decide +kernel) (by decide +kernel)
theorem k_146 : Cond.instanceMethod (⟨"ReleaseRows$WaitingRow", "<init>", "()V"⟩ : MethodName) ∈ gG := x_k 146 (by decide +kernel) (by decide +kernel)
theorem k_147 : Cond.code (⟨"ReleaseRows$WaitingRow", "<init>", "()V"⟩ : MethodName) prog_4_method_1_code 1 none ∈ gG := x_k 147 (by decide +kernel) (by decide +kernel)
theorem x_ofV3 {l : Launch} {y : MethodName} {ws ws' : List Cond} {rm : Room} {mc ms sz : Nat} {cc : ByteArray} {maxL : Nat} {av : List Value} {D : va_G} {cl : List vw_C} {tys : List (ClassId × FieldType)} {w0 : va_W} {S : Type} {post : S → Prop} {w1 : S → va_W} {Ex : State → Prop}
    (hy : plainName y.cls = true) (hw : ws = Cond.code y cc maxL none :: ws') (hav : (lg_sl av).length ≤ maxL)
    (body : ∀ (p : Program) (e : Env) (s : State) (m : MethodId) (below : List Frame) (meth : Method) (c : Code) (A : Nat → Prop) (Q : State → Prop), p.tables.exec = Jvm.exec → c.code = cc → c.maxLocals = maxL → (∀ w ∈ ws', w.before av.toArray s = true) → s.vm.findClass y.cls = some m.cls → meth.name = y.name → va_K D cl tys s → (∀ q, s.heap.size ≤ q → A q) → va_P D cl w0 s.heap → va_D A w0 → va_S A s.heap s.heap [] → Ex s →
      (∀ (u : S) (H : Heap) (locs : List Loc) (cells slots pc : Nat) (ls : Array Slot), post u → va_P D cl (w1 u) H → va_D A (w1 u) → va_S A s.heap H locs → cells ≤ mc → slots ≤ ms → decode cc pc = .ok (.return_, 1) → W p l e (headSpec ws rm).room s m av.toArray below meth c H locs cells slots Q (F0 m pc ls [])) →
      ∀ ls : Array Slot, lv_has ls maxL (lv_args 0 av) → W p l e (headSpec ws rm).room s m av.toArray below meth c s.heap [] 0 0 Q (F0 m 0 ls [])) :
    Met l y ws rm (va_Pc av (fun U => xP D cl tys w0 sz U ∧ Ex U)) (va_Qv post (xB D cl tys (va_A w0 sz) w1) (va_A w0 sz)) mc ms (va_A w0 sz) := by
  refine Met.ofW (cc := cc) (maxL := maxL) (ret := none) hy hw ?_
  intro p e s m args below meth c s₁ B hml hv
  obtain ⟨rfl, ⟨hsz, hP, hK, hD0⟩, hEx⟩ := hv
  subst hsz
  have hl := lv_entry av (n := maxL) hav
  have hlocks := B.notSynchronized
  have hr := B.returns
  have hin : meth.name = y.name := (name_of_methodNamed B.named B.method).1
  rw [lg_entry_eq]
  exact body p e s m below meth c (va_A w0 s.heap.size) _ B.exec B.bytes hml (fun w h => atoms_spec (ws := ws) B.pre w (by rw [hw]; exact List.mem_cons_of_mem _ h)) (findClass_of_methodNamed B.named) hin hK (fun q h => Or.inr h) hP hD0.self va_S.rf hEx (fun u H locs cells slots pc ls hp hP1 hD1 hS1 hc hs hd => W.widen hc hs (W.vret B.exec B.bytes hr (fun t ht hW => ⟨⟨u, rfl, hp, by rw [ht]; exact hP1, va_K.moved hW.alike hK, hD1⟩, hS1.F ht⟩) hS1.2.2 hd)) _ hl
def xM3 (U : State) : Prop := va_Nw (.methodLinkNest "ReleaseRows" 9 ⟨"ReleaseRows$UnitRows", "<init>", "()V"⟩ "ReleaseRows") U ∧ va_Nw (.methodLinkNest "ReleaseRows" 18 ⟨"ReleaseRows$IncidentRows", "<init>", "()V"⟩ "ReleaseRows") U ∧ va_Nw (.methodLinkNest "ReleaseRows" 25 ⟨"ReleaseRows$WaitingRow", "<init>", "()V"⟩ "ReleaseRows") U
set_option maxHeartbeats 4000000 in
set_option maxRecDepth 100000 in
theorem c_R_init (l : Launch) (dC : Nat → ClassId) (dI : Nat → Nat → Nat) (cI cZ cL : ClassId) (h0 sz : Nat) : Met l y_R_init w_R_init ({ frames := 2, cells := 24, slots := 599, locals := 32 } : Room) (va_Pc [.ref h0] (fun U => xP (dC, dI) vwCl [(cI, .int), (cZ, .boolean), (cL, .long)] [(h0, .inr (3, [.null, .null, .null, .null, .int (0 : Int32), .int (0 : Int32)]))] sz U ∧ xM3 U)) (va_Qv (fun u : (Nat → Nat) × (Nat → Nat) × (Nat → Nat) × (Nat → Nat) => u.1 0 = h0) (xB (dC, dI) vwCl [(cI, .int), (cZ, .boolean), (cL, .long)] (va_A [(h0, .inr (3, [.null, .null, .null, .null, .int (0 : Int32), .int (0 : Int32)]))] sz) (fun u => (wd_RUIW u.1 u.2.1 u.2.2.1 u.2.2.2 cI cZ cL (sF x00 5 (600 : Int32)) x00 x00 x00))) (va_A [(h0, .inr (3, [.null, .null, .null, .null, .int (0 : Int32), .int (0 : Int32)]))] sz)) 24 599 (va_A [(h0, .inr (3, [.null, .null, .null, .null, .int (0 : Int32), .int (0 : Int32)]))] sz) := by
  refine x_ofV3 (cc := b_R_init) (maxL := 1) (by decide) rfl (Nat.le_of_ble_eq_true rfl) (fun p e s m below meth c A Q hx hb hml hts hown hin hK hA hP hD hS hM3 hret ls hl => ?_)
  obtain ⟨hMU, hMI, hMW⟩ := hM3
  have hl : lv_has ls 1 [(0, .ref h0)] := hl
  refine lv_aload_n hx hb d_R_init_0 rfl (lv_at hl 0 rfl) ?_
  refine W.objInit hx hb hown (hts _ k_44) (hts _ k_45) (hts _ k_46) rfl (by rw [hml]; exact hl.1) rfl d_R_init_1 (Nat.le_of_ble_eq_true rfl) (Nat.le_of_ble_eq_true rfl) ?_
  refine W.eq (g2 := F0 m 4 ls []) rfl ?_
  refine lv_aload_n hx hb d_R_init_4 rfl (lv_at hl 0 rfl) ?_
  refine va_new (ci := 1) (fs := [.null, .null, .null, .null, .null, .null, .null, .null, .null, .null, .int (0 : Int32)]) (C := "ReleaseRows$UnitRows") (T := T_U) (N := 11) hx hb hts in_U ty_U tyok_U hown (hts _ k_47) (hts _ k_48) (hts _ k_27) hK hP hD hS hA rfl (fun j hj => by match j, hj with | 0, _ => rfl | 1, _ => rfl | 2, _ => rfl | 3, _ => rfl | 4, _ => rfl | 5, _ => rfl | 6, _ => rfl | 7, _ => rfl | 8, _ => rfl | 9, _ => rfl | 10, _ => rfl | j + 11, hj => exact absurd hj (by omega)) (Nat.le_of_ble_eq_true rfl) (Nat.le_of_ble_eq_true rfl) d_R_init_5 (fun hU H hP hD hS => ?_)
  have hP : va_P (dC, dI) vwCl ([(h0, .inr (3, [.null, .null, .null, .null, .int (0 : Int32), .int (0 : Int32)]))] ++ [(hU, .inr (1, [.null, .null, .null, .null, .null, .null, .null, .null, .null, .null, .int (0 : Int32)]))]) H := hP
  have hD : va_D A ([(h0, .inr (3, [.null, .null, .null, .null, .int (0 : Int32), .int (0 : Int32)]))] ++ [(hU, .inr (1, [.null, .null, .null, .null, .null, .null, .null, .null, .null, .null, .int (0 : Int32)]))]) := hD
  refine lv_dup hx hb d_R_init_8 rfl ?_
  refine x_cv (w2 := fun q => [(h0, .inr (3, [.null, .null, .null, .null, .int (0 : Int32), .int (0 : Int32)]))] ++ (wd_U q cI cZ cL x00)) [1] [0] [0, 1, 2, 3, 4, 5, 6, 7, 8, 9, 10, 11] (va_runIN (As := []) (rest := [.ref hU, .ref h0]) (host := "ReleaseRows") ⟨hx, hb, hml, hown, hts⟩ (c_U_init l dC dI cI cZ cL hU _) ⟨va_cnB 0 hts (x_gC k_51) rfl rfl rfl hMU (hts _ k_27) (by decide +kernel) ⟨(Nat.le_of_ble_eq_true rfl), (Nat.le_of_ble_eq_true rfl)⟩, rfl, hts _ k_50⟩ ⟨x_blind, fun U hU hW => x_pre (isC := [1]) hK hP hD rfl rfl hU hW⟩ rfl rfl hl.1 rfl (lv_room (Nat.le_of_ble_eq_true rfl)) d_R_init_9 ⟨(Nat.le_of_ble_eq_true rfl), (Nat.le_of_ble_eq_true rfl)⟩) hP hD hS hA rfl rfl rfl (by decide) (fun _ => rfl) rfl (fun qU H locs heU hP hD hS => ?_)
  have heU : hU = qU 0 := heU.symm
  rw [heU]
  refine va_putF (D := (dC, dI)) (ci := 3) (v := .ref (qU 0)) (ty := .object "ReleaseRows$UnitRows") (C := "ReleaseRows") (T := T_R) (N := 6) hx hb hts in_R ty_R tyok_R nm_R hown hK hP hD hS 0 rfl rfl 0 (by decide) (hts _ k_157) (fun _ h9 => h9) rfl hin rfl (by decide +kernel) rfl rfl (Nat.le_of_ble_eq_true rfl) d_R_init_12 (fun H locs hP hD hS => ?_)
  have hP : va_P (dC, dI) vwCl ([(h0, .inr (3, [.ref (qU 0), .null, .null, .null, .int (0 : Int32), .int (0 : Int32)]))] ++ (wd_U qU cI cZ cL x00)) H := hP
  have hD : va_D A ([(h0, .inr (3, [.ref (qU 0), .null, .null, .null, .int (0 : Int32), .int (0 : Int32)]))] ++ (wd_U qU cI cZ cL x00)) := hD
  refine lv_aload_n hx hb d_R_init_15 rfl (lv_at hl 0 rfl) ?_
  refine va_new (ci := 0) (fs := [.null, .null, .null, .null, .null, .null, .null, .null, .null, .int (0 : Int32)]) (C := "ReleaseRows$IncidentRows") (T := T_I) (N := 10) hx hb hts in_I ty_I tyok_I hown (hts _ k_96) (hts _ k_97) (hts _ k_28) hK hP hD hS hA rfl (fun j hj => by match j, hj with | 0, _ => rfl | 1, _ => rfl | 2, _ => rfl | 3, _ => rfl | 4, _ => rfl | 5, _ => rfl | 6, _ => rfl | 7, _ => rfl | 8, _ => rfl | 9, _ => rfl | j + 10, hj => exact absurd hj (by omega)) (Nat.le_of_ble_eq_true rfl) (Nat.le_of_ble_eq_true rfl) d_R_init_16 (fun hI H hP hD hS => ?_)
  have hP : va_P (dC, dI) vwCl ([(h0, .inr (3, [.ref (qU 0), .null, .null, .null, .int (0 : Int32), .int (0 : Int32)]))] ++ (wd_U qU cI cZ cL x00) ++ [(hI, .inr (0, [.null, .null, .null, .null, .null, .null, .null, .null, .null, .int (0 : Int32)]))]) H := hP
  have hD : va_D A ([(h0, .inr (3, [.ref (qU 0), .null, .null, .null, .int (0 : Int32), .int (0 : Int32)]))] ++ (wd_U qU cI cZ cL x00) ++ [(hI, .inr (0, [.null, .null, .null, .null, .null, .null, .null, .null, .null, .int (0 : Int32)]))]) := hD
  refine lv_dup hx hb d_R_init_19 rfl ?_
  refine x_cv (w2 := fun q => [(h0, .inr (3, [.ref (qU 0), .null, .null, .null, .int (0 : Int32), .int (0 : Int32)]))] ++ (wd_U qU cI cZ cL x00) ++ (wd_I q cI cZ cL x00)) [12] [0, 1, 2, 3, 4, 5, 6, 7, 8, 9, 10, 11] [0, 1, 2, 3, 4, 5, 6, 7, 8, 9, 10, 11, 12, 13, 14, 15, 16, 17, 18, 19, 20, 21] (va_runIN (As := []) (rest := [.ref hI, .ref h0]) (host := "ReleaseRows") ⟨hx, hb, hml, hown, hts⟩ (c_I_init l dC dI cI cZ cL hI _) ⟨va_cnB 0 hts (x_gC k_100) rfl rfl rfl hMI (hts _ k_28) (by decide +kernel) ⟨(Nat.le_of_ble_eq_true rfl), (Nat.le_of_ble_eq_true rfl)⟩, rfl, hts _ k_99⟩ ⟨x_blind, fun U hU hW => x_pre (isC := [12]) hK hP hD rfl rfl hU hW⟩ rfl rfl hl.1 rfl (lv_room (Nat.le_of_ble_eq_true rfl)) d_R_init_20 ⟨(Nat.le_of_ble_eq_true rfl), (Nat.le_of_ble_eq_true rfl)⟩) hP hD hS hA rfl rfl rfl (by decide) (fun _ => rfl) rfl (fun qI H locs heI hP hD hS => ?_)
  have heI : hI = qI 0 := heI.symm
  rw [heI]
  refine va_putF (D := (dC, dI)) (ci := 3) (v := .ref (qI 0)) (ty := .object "ReleaseRows$IncidentRows") (C := "ReleaseRows") (T := T_R) (N := 6) hx hb hts in_R ty_R tyok_R nm_R hown hK hP hD hS 0 rfl rfl 1 (by decide) (hts _ k_158) (fun _ h9 => h9) rfl hin rfl (by decide +kernel) rfl rfl (Nat.le_of_ble_eq_true rfl) d_R_init_23 (fun H locs hP hD hS => ?_)
  have hP : va_P (dC, dI) vwCl ([(h0, .inr (3, [.ref (qU 0), .ref (qI 0), .null, .null, .int (0 : Int32), .int (0 : Int32)]))] ++ (wd_U qU cI cZ cL x00) ++ (wd_I qI cI cZ cL x00)) H := hP
  have hD : va_D A ([(h0, .inr (3, [.ref (qU 0), .ref (qI 0), .null, .null, .int (0 : Int32), .int (0 : Int32)]))] ++ (wd_U qU cI cZ cL x00) ++ (wd_I qI cI cZ cL x00)) := hD
  refine lv_aload_n hx hb d_R_init_26 rfl (lv_at hl 0 rfl) ?_
  refine va_new (ci := 2) (fs := [.null, .int (0 : Int32)]) (C := "ReleaseRows$WaitingRow") (T := T_W) (N := 2) hx hb hts in_W ty_W tyok_W hown (hts _ k_143) (hts _ k_144) (hts _ k_29) hK hP hD hS hA rfl (fun j hj => by match j, hj with | 0, _ => rfl | 1, _ => rfl | j + 2, hj => exact absurd hj (by omega)) (Nat.le_of_ble_eq_true rfl) (Nat.le_of_ble_eq_true rfl) d_R_init_27 (fun hW H hP hD hS => ?_)
  have hP : va_P (dC, dI) vwCl ([(h0, .inr (3, [.ref (qU 0), .ref (qI 0), .null, .null, .int (0 : Int32), .int (0 : Int32)]))] ++ (wd_U qU cI cZ cL x00) ++ (wd_I qI cI cZ cL x00) ++ [(hW, .inr (2, [.null, .int (0 : Int32)]))]) H := hP
  have hD : va_D A ([(h0, .inr (3, [.ref (qU 0), .ref (qI 0), .null, .null, .int (0 : Int32), .int (0 : Int32)]))] ++ (wd_U qU cI cZ cL x00) ++ (wd_I qI cI cZ cL x00) ++ [(hW, .inr (2, [.null, .int (0 : Int32)]))]) := hD
  refine lv_dup hx hb d_R_init_30 rfl ?_
  refine x_cv (w2 := fun q => [(h0, .inr (3, [.ref (qU 0), .ref (qI 0), .null, .null, .int (0 : Int32), .int (0 : Int32)]))] ++ (wd_U qU cI cZ cL x00) ++ (wd_I qI cI cZ cL x00) ++ (wd_W q cI cZ cL x00)) [22] [0, 1, 2, 3, 4, 5, 6, 7, 8, 9, 10, 11, 12, 13, 14, 15, 16, 17, 18, 19, 20, 21] [0, 1, 2, 3, 4, 5, 6, 7, 8, 9, 10, 11, 12, 13, 14, 15, 16, 17, 18, 19, 20, 21, 22, 23] (va_runIN (As := []) (rest := [.ref hW, .ref h0]) (host := "ReleaseRows") ⟨hx, hb, hml, hown, hts⟩ (c_W_init l dC dI cI cZ cL hW _) ⟨va_cnB 0 hts (x_gC k_147) rfl rfl rfl hMW (hts _ k_29) (by decide +kernel) ⟨(Nat.le_of_ble_eq_true rfl), (Nat.le_of_ble_eq_true rfl)⟩, rfl, hts _ k_146⟩ ⟨x_blind, fun U hU hW => x_pre (isC := [22]) hK hP hD rfl rfl hU hW⟩ rfl rfl hl.1 rfl (lv_room (Nat.le_of_ble_eq_true rfl)) d_R_init_31 ⟨(Nat.le_of_ble_eq_true rfl), (Nat.le_of_ble_eq_true rfl)⟩) hP hD hS hA rfl rfl rfl (by decide) (fun _ => rfl) rfl (fun qW H locs heW hP hD hS => ?_)
  have heW : hW = qW 0 := heW.symm
  rw [heW]
  refine va_putF (D := (dC, dI)) (ci := 3) (v := .ref (qW 0)) (ty := .object "ReleaseRows$WaitingRow") (C := "ReleaseRows") (T := T_R) (N := 6) hx hb hts in_R ty_R tyok_R nm_R hown hK hP hD hS 0 rfl rfl 2 (by decide) (hts _ k_159) (fun _ h9 => h9) rfl hin rfl (by decide +kernel) rfl rfl (Nat.le_of_ble_eq_true rfl) d_R_init_34 (fun H locs hP hD hS => ?_)
  have hP : va_P (dC, dI) vwCl ([(h0, .inr (3, [.ref (qU 0), .ref (qI 0), .ref (qW 0), .null, .int (0 : Int32), .int (0 : Int32)]))] ++ (wd_U qU cI cZ cL x00) ++ (wd_I qI cI cZ cL x00) ++ (wd_W qW cI cZ cL x00)) H := hP
  have hD : va_D A ([(h0, .inr (3, [.ref (qU 0), .ref (qI 0), .ref (qW 0), .null, .int (0 : Int32), .int (0 : Int32)]))] ++ (wd_U qU cI cZ cL x00) ++ (wd_I qI cI cZ cL x00) ++ (wd_W qW cI cZ cL x00)) := hD
  refine lv_aload_n hx hb d_R_init_37 rfl (lv_at hl 0 rfl) ?_
  refine lv_bipush (v := (6 : Int32)) hx hb d_R_init_38 (by decide) ?_
  refine x_newI (N := 6) hx hb (hts _ k_95) hK hP hD hS hA (by decide) (by decide) (by decide) (Nat.le_of_ble_eq_true rfl) (Nat.le_of_ble_eq_true rfl) d_R_init_40 (fun q40 H hP hD hS => ?_)
  have hP : va_P (dC, dI) vwCl ([(h0, .inr (3, [.ref (qU 0), .ref (qI 0), .ref (qW 0), .null, .int (0 : Int32), .int (0 : Int32)]))] ++ (wd_U qU cI cZ cL x00) ++ (wd_I qI cI cZ cL x00) ++ (wd_W qW cI cZ cL x00) ++ [(q40, .inl (cI, 6, .inl (fun _ => 0)))]) H := hP
  have hD : va_D A ([(h0, .inr (3, [.ref (qU 0), .ref (qI 0), .ref (qW 0), .null, .int (0 : Int32), .int (0 : Int32)]))] ++ (wd_U qU cI cZ cL x00) ++ (wd_I qI cI cZ cL x00) ++ (wd_W qW cI cZ cL x00) ++ [(q40, .inl (cI, 6, .inl (fun _ => 0)))]) := hD
  refine va_putF (D := (dC, dI)) (ci := 3) (v := .ref q40) (ty := (.array .int)) (C := "ReleaseRows") (T := T_R) (N := 6) hx hb hts in_R ty_R tyok_R nm_R hown hK hP hD hS 0 rfl rfl 3 (by decide) (hts _ k_160) (fun _ h9 => h9) rfl hin rfl (by decide +kernel) rfl rfl (Nat.le_of_ble_eq_true rfl) d_R_init_42 (fun H locs hP hD hS => ?_)
  have hP : va_P (dC, dI) vwCl ([(h0, .inr (3, [.ref (qU 0), .ref (qI 0), .ref (qW 0), .ref q40, .int (0 : Int32), .int (0 : Int32)]))] ++ (wd_U qU cI cZ cL x00) ++ (wd_I qI cI cZ cL x00) ++ (wd_W qW cI cZ cL x00) ++ [(q40, .inl (cI, 6, .inl (fun _ => 0)))]) H := hP
  have hD : va_D A ([(h0, .inr (3, [.ref (qU 0), .ref (qI 0), .ref (qW 0), .ref q40, .int (0 : Int32), .int (0 : Int32)]))] ++ (wd_U qU cI cZ cL x00) ++ (wd_I qI cI cZ cL x00) ++ (wd_W qW cI cZ cL x00) ++ [(q40, .inl (cI, 6, .inl (fun _ => 0)))]) := hD
  refine lv_aload_n hx hb d_R_init_45 rfl (lv_at hl 0 rfl) ?_
  refine lv_iconst (v := (0 : Int32)) hx hb d_R_init_46 (by decide) ?_
  refine va_put (D := (dC, dI)) (ci := 3) (v := .int (0 : Int32)) (ty := .int) (C := "ReleaseRows") (T := T_R) (N := 6) hx hb hts in_R ty_R tyok_R nm_R hown hK hP hD hS 0 rfl rfl 4 (by decide) (hts _ k_161) (fun _ h9 => h9) rfl (by decide +kernel) rfl rfl (Nat.le_of_ble_eq_true rfl) d_R_init_47 (fun H locs hP hD hS => ?_)
  have hP : va_P (dC, dI) vwCl ([(h0, .inr (3, [.ref (qU 0), .ref (qI 0), .ref (qW 0), .ref q40, .int (0 : Int32), .int (0 : Int32)]))] ++ (wd_U qU cI cZ cL x00) ++ (wd_I qI cI cZ cL x00) ++ (wd_W qW cI cZ cL x00) ++ [(q40, .inl (cI, 6, .inl (fun _ => 0)))]) H := hP
  have hD : va_D A ([(h0, .inr (3, [.ref (qU 0), .ref (qI 0), .ref (qW 0), .ref q40, .int (0 : Int32), .int (0 : Int32)]))] ++ (wd_U qU cI cZ cL x00) ++ (wd_I qI cI cZ cL x00) ++ (wd_W qW cI cZ cL x00) ++ [(q40, .inl (cI, 6, .inl (fun _ => 0)))]) := hD
  refine lv_aload_n hx hb d_R_init_50 rfl (lv_at hl 0 rfl) ?_
  refine lv_sipush (v := (600 : Int32)) hx hb d_R_init_51 (by decide) ?_
  refine va_put (D := (dC, dI)) (ci := 3) (v := .int (600 : Int32)) (ty := .int) (C := "ReleaseRows") (T := T_R) (N := 6) hx hb hts in_R ty_R tyok_R nm_R hown hK hP hD hS 0 rfl rfl 5 (by decide) (hts _ k_162) (fun _ h9 => h9) rfl (by decide +kernel) rfl rfl (Nat.le_of_ble_eq_true rfl) d_R_init_54 (fun H locs hP hD hS => ?_)
  have hP : va_P (dC, dI) vwCl ([(h0, .inr (3, [.ref (qU 0), .ref (qI 0), .ref (qW 0), .ref q40, .int (0 : Int32), .int (600 : Int32)]))] ++ (wd_U qU cI cZ cL x00) ++ (wd_I qI cI cZ cL x00) ++ (wd_W qW cI cZ cL x00) ++ [(q40, .inl (cI, 6, .inl (fun _ => 0)))]) H := hP
  have hD : va_D A ([(h0, .inr (3, [.ref (qU 0), .ref (qI 0), .ref (qW 0), .ref q40, .int (0 : Int32), .int (600 : Int32)]))] ++ (wd_U qU cI cZ cL x00) ++ (wd_I qI cI cZ cL x00) ++ (wd_W qW cI cZ cL x00) ++ [(q40, .inl (cI, 6, .inl (fun _ => 0)))]) := hD
  have hP : va_P (dC, dI) vwCl (wd_RUIW (fun j => [h0, 0, 0, 0, q40].getD j 0) qU qI qW cI cZ cL (sF x00 5 (600 : Int32)) x00 x00 x00) H := hP.sub [0, 24, 1, 2, 3, 4, 5, 6, 7, 8, 9, 10, 11, 12, 13, 14, 15, 16, 17, 18, 19, 20, 21, 22, 23] rfl
  have hD : va_D A (wd_RUIW (fun j => [h0, 0, 0, 0, q40].getD j 0) qU qI qW cI cZ cL (sF x00 5 (600 : Int32)) x00 x00 x00) := hD.sub [0, 24, 1, 2, 3, 4, 5, 6, 7, 8, 9, 10, 11, 12, 13, 14, 15, 16, 17, 18, 19, 20, 21, 22, 23] (by decide) rfl
  exact hret ((fun j => [h0, 0, 0, 0, q40].getD j 0), qU, qI, qW) H locs _ _ _ _ rfl hP hD hS (Nat.le_of_ble_eq_true rfl) (Nat.le_of_ble_eq_true rfl) d_R_init_57

