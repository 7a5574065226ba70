theorem k_39 : Cond.classLink "ReleaseRowsLaw" 8 "ReleaseRows" ∈ gG := x_k 39 (by decide +kernel) (by decide +kernel)
theorem k_40 : Cond.instantiable "ReleaseRows" 6 ∈ gG := x_k 40 (by decide +kernel) (by decide +kernel)
theorem k_41 : Cond.methodLink "ReleaseRowsLaw" 75 (⟨"ReleaseRows", "<init>", "()V"⟩ : MethodName) ∈ gG := x_k 41 (by decide +kernel) (by decide +kernel)
theorem k_42 : Cond.instanceMethod (⟨"ReleaseRows", "<init>", "()V"⟩ : MethodName) ∈ gG := x_k 42 (by decide +kernel) (by decide +kernel)
theorem k_43 : Cond.code (⟨"ReleaseRows", "<init>", "()V"⟩ : MethodName) prog_1_method_1_code 1 none ∈ gG := x_k 43 (by decide +kernel) (by decide +kernel)
theorem k_570 : Cond.classLink "ReleaseRowsLaw" 76 "ReleaseRowsModel" ∈ gG := x_k 570 (by decide +kernel) (by decide +kernel)
theorem k_571 : Cond.instantiable "ReleaseRowsModel" 27 ∈ gG := x_k 571 (by decide +kernel) (by decide +kernel)
theorem k_572 : Cond.methodLink "ReleaseRowsLaw" 78 (⟨"ReleaseRowsModel", "<init>", "()V"⟩ : MethodName) ∈ gG := x_k 572 (by decide +kernel) (by decide +kernel)
theorem k_573 : Cond.instanceMethod (⟨"ReleaseRowsModel", "<init>", "()V"⟩ : MethodName) ∈ gG := x_k 573 (by decide +kernel) (by decide +kernel)
theorem k_574 : Cond.code (⟨"ReleaseRowsModel", "<init>", "()V"⟩ : MethodName) prog_6_method_1_code 1 none ∈ gG := x_k 574 (by decide +kernel) (by decide +kernel)
theorem k_800 : Cond.arrayClass .long ∈ gG := x_k 800 (by decide +kernel) (by decide +kernel)
theorem x_arr {args : Array Value} {s : State} {ty : FieldType} (h : (Cond.arrayClass ty).before args s = true) : ∃ cA : ClassId, ArrOfT s cA ty ∧ s.vm.findClass ("[" ++ ty.toString) = some cA := by
  obtain ⟨cA, kA, comp, h1, h2, h3⟩ := Cond.arrayClass_spec h
  exact ⟨cA, fun n z => ⟨fun k h => (by cases h), kA, h2, comp, h3⟩, h1⟩
set_option maxHeartbeats 4000000 in
set_option maxRecDepth 100000 in
theorem start_E {args : Array Value} {s : State} (hts0 : ∀ w ∈ lw_tbl, w.before args s = true) (hgv : (Jvm.Cond.and given_1 narrow_1).before args s = true) : ∃ sa : Nat → Nat, xE "ReleaseRows" xTx sa (fun q : Nat => s.heap.size ≤ q) s.heap s := by
  have hs := flat_of_before _ hgv
  have hA : ∀ a : Nat, a < s.heap.size → ¬ (fun q : Nat => s.heap.size ≤ q) a := fun a h => Nat.not_le.mpr h
  have e187 : (Cond.exactly (.string "ReleaseRows" 187) "java/lang/String").before args s = true := hs _ (by decide +kernel)
  obtain ⟨a187, -, -, -, q187, -⟩ := Cond.exactly_spec (args := args) (first := s) (o := none) (s := s) (idx := []) e187
  have e197 : (Cond.exactly (.string "ReleaseRows" 197) "java/lang/String").before args s = true := hs _ (by decide +kernel)
  obtain ⟨a197, -, -, -, q197, -⟩ := Cond.exactly_spec (args := args) (first := s) (o := none) (s := s) (idx := []) e197
  have e183 : (Cond.exactly (.string "ReleaseRows" 183) "java/lang/String").before args s = true := hs _ (by decide +kernel)
  obtain ⟨a183, -, -, -, q183, -⟩ := Cond.exactly_spec (args := args) (first := s) (o := none) (s := s) (idx := []) e183
  have e192 : (Cond.exactly (.string "ReleaseRows" 192) "java/lang/String").before args s = true := hs _ (by decide +kernel)
  obtain ⟨a192, -, -, -, q192, -⟩ := Cond.exactly_spec (args := args) (first := s) (o := none) (s := s) (idx := []) e192
  have e153 : (Cond.exactly (.string "ReleaseRows" 153) "java/lang/String").before args s = true := hs _ (by decide +kernel)
  obtain ⟨a153, -, -, -, q153, -⟩ := Cond.exactly_spec (args := args) (first := s) (o := none) (s := s) (idx := []) e153
  refine ⟨fun k => bif Nat.beq k 187 then a187 else (bif Nat.beq k 197 then a197 else (bif Nat.beq k 183 then a183 else (bif Nat.beq k 192 then a192 else (bif Nat.beq k 153 then a153 else (0))))), ?_, ?_, ?_, ?_, ?_⟩
  · exact vx_Zqof (hts0 (Cond.laysStatic Bundle.tN "UNASSIGNED_STACK" Bundle.steD) (List.mem_of_getElem? (i := 216) (by decide +kernel))) (hts0 (Cond.initialized Bundle.tN) (List.mem_of_getElem? (i := 31) (by decide +kernel))) (hs _ (by decide +kernel)) hA
  · exact vx_Zqof (hts0 (Cond.laysStatic Bundle.tN "SUPPRESSED_SENTINEL" Bundle.listD) (List.mem_of_getElem? (i := 218) (by decide +kernel))) (hts0 (Cond.initialized Bundle.tN) (List.mem_of_getElem? (i := 31) (by decide +kernel))) (hs _ (by decide +kernel)) hA
  · intro q hq
    simp only [xTx, List.mem_cons, List.not_mem_nil, or_false] at hq
    rcases hq with rfl | rfl | rfl | rfl | rfl
    · exact vk_R.of (A := args) (hts0 (Cond.stringRef "ReleaseRows" 187 "a number outside its range") (List.mem_of_getElem? (i := 231) (by decide +kernel))) q187
    · exact vk_R.of (A := args) (hts0 (Cond.stringRef "ReleaseRows" 197 "no room") (List.mem_of_getElem? (i := 270) (by decide +kernel))) q197
    · exact vk_R.of (A := args) (hts0 (Cond.stringRef "ReleaseRows" 183 "no such number") (List.mem_of_getElem? (i := 380) (by decide +kernel))) q183
    · exact vk_R.of (A := args) (hts0 (Cond.stringRef "ReleaseRows" 192 "not in this state") (List.mem_of_getElem? (i := 446) (by decide +kernel))) q192
    · exact vk_R.of (A := args) (hts0 (Cond.stringRef "ReleaseRows" 153 "no such what") (List.mem_of_getElem? (i := 543) (by decide +kernel))) q153
  · intro C hC
    simp only [xEx, List.mem_cons, List.not_mem_nil, or_false] at hC
    rcases hC with rfl | rfl | rfl | rfl
    · exact va_Nw.of rfl (hts0 (Cond.castable "java/lang/IllegalArgumentException" "java/lang/IllegalArgumentException") (List.mem_of_getElem? (i := 373) (by decide +kernel)))
    · exact va_Nw.of rfl (hts0 (Cond.castable "java/lang/IndexOutOfBoundsException" "java/lang/IndexOutOfBoundsException") (List.mem_of_getElem? (i := 191) (by decide +kernel)))
    · exact va_Nw.of rfl (hts0 (Cond.castable "java/lang/IllegalStateException" "java/lang/IllegalStateException") (List.mem_of_getElem? (i := 439) (by decide +kernel)))
    · exact va_Nw.of rfl (hts0 (Cond.castable "java/lang/UnsupportedOperationException" "java/lang/UnsupportedOperationException") (List.mem_of_getElem? (i := 263) (by decide +kernel)))
  · intro x hx
    simp only [xDl, List.mem_cons, List.not_mem_nil, or_false] at hx
    rcases hx with rfl | rfl | rfl
    · exact va_Nw.of rfl (hts0 (Cond.declares (⟨"java/lang/RuntimeException", "<init>", "(Ljava/lang/String;)V"⟩ : MethodName)) (List.mem_of_getElem? (i := 193) (by decide +kernel)))
    · exact va_Nw.of rfl (hts0 (Cond.declares (⟨"java/lang/Exception", "<init>", "(Ljava/lang/String;)V"⟩ : MethodName)) (List.mem_of_getElem? (i := 195) (by decide +kernel)))
    · exact va_Nw.of rfl (hts0 (Cond.declares (⟨"java/lang/Throwable", "<init>", "(Ljava/lang/String;)V"⟩ : MethodName)) (List.mem_of_getElem? (i := 197) (by decide +kernel)))
set_option maxHeartbeats 4000000 in
set_option maxRecDepth 100000 in
theorem start_N {args : Array Value} {s : State} (hgv : (Jvm.Cond.and given_1 narrow_1).before args s = true) : xN s := by
  have hs := flat_of_before _ hgv
  intro C hC T hT hn
  simp only [xEx, List.mem_cons, List.not_mem_nil, or_false] at hC hT
  rcases hC with rfl | rfl | rfl | rfl <;> rcases hT with rfl | rfl | rfl | rfl <;> first | exact absurd rfl hn | exact va_Nc.of (hs _ (by decide +kernel))
theorem start_3 {args : Array Value} {s : State} (hts0 : ∀ w ∈ lw_tbl, w.before args s = true) : xM3 s := ⟨va_Nw.of rfl (hts0 (Cond.methodLinkNest "ReleaseRows" 9 (⟨"ReleaseRows$UnitRows", "<init>", "()V"⟩ : MethodName) "ReleaseRows") (List.mem_of_getElem? (i := 49) (by decide +kernel))), va_Nw.of rfl (hts0 (Cond.methodLinkNest "ReleaseRows" 18 (⟨"ReleaseRows$IncidentRows", "<init>", "()V"⟩ : MethodName) "ReleaseRows") (List.mem_of_getElem? (i := 98) (by decide +kernel))), va_Nw.of rfl (hts0 (Cond.methodLinkNest "ReleaseRows" 25 (⟨"ReleaseRows$WaitingRow", "<init>", "()V"⟩ : MethodName) "ReleaseRows") (List.mem_of_getElem? (i := 145) (by decide +kernel)))⟩
theorem x_blind3 {D : va_G} {cl : List vw_C} {tys : List (ClassId × FieldType)} {wc : va_W} {sz : Nat} {av : List Value} : FrameBlind (va_Pc av (fun U => xP D cl tys wc sz U ∧ xM3 U)) := fun a U g mk q => by
  obtain ⟨q0, ⟨q1, qP, qK, qD⟩, e1, e2, e3⟩ := q
  exact ⟨q0, ⟨q1, qP, va_K.moved (u := U) (U := U.calling g mk a) (Vm.Alike.refl U.vm) qK, qD⟩, va_Nw.same (u := U) (U := U.calling g mk a) rfl rfl e1, va_Nw.same (u := U) (U := U.calling g mk a) rfl rfl e2, va_Nw.same (u := U) (U := U.calling g mk a) rfl rfl e3⟩
theorem x_pre3 {D : va_G} {cl : List vw_C} {tys : List (ClassId × FieldType)} {w wc : va_W} {H : Heap} {s U : State} {A : Nat → Prop} {av : List Value} {isC : List Nat} (hK : va_K D cl tys s) (hP : va_P D cl w H) (hD : va_D A w) (h3 : xM3 s) (hn : va_nd isC = true) (hC : isC.map (fun i => w[i]?) = wc.map some) (hU : U.heap = H) (hW : s.WarmedH U.vm) : va_Pc av (fun U => xP D cl tys wc H.size U ∧ xM3 U) av.toArray U :=
  ⟨rfl, ⟨by rw [hU], by rw [hU]; exact hP.sub isC (x_fm hC), va_K.moved hW.alike hK, (hD.sub isC hn hC).weaken (fun _ _ _ _ => trivial)⟩, va_Nw.warmM hW h3.1, va_Nw.warmM hW h3.2.1, va_Nw.warmM hW h3.2.2⟩
theorem x_sameL {U : State} {c1 c2 : ClassId} (h1 : va_RA U c1 .long) (h2 : va_RA U c2 .long) : c1 = c2 := Option.some.inj (Eq.trans (Eq.symm h1) h2)
section XN
variable {p : Program} {l : Launch} {e : Env} {R : Room} {s : State} {m : MethodId} {args : Array Value} {below : List Frame} {meth : Method} {c : Code} {H : Heap} {locs : List Loc} {cells slots : Nat} {Q : State → Prop}
variable {cc : ByteArray} {pc : Nat} {ls : Array Slot} {rest : List Value} {A0 : Nat → Prop} {H0 : Heap} {D : va_G} {cl : List vw_C} {cI cZ cL : ClassId} {w : va_W}
/-- new long[N] -/
theorem x_newL (hx : p.tables.exec = Jvm.exec) (hb : c.code = cc) (harr : (Cond.arrayClass .long).before args s = true) (hK : va_K D cl [(cI, .int), (cZ, .boolean), (cL, .long)] s) (hP : va_P D cl w H) (hD : va_D A0 w) (hS : va_S A0 H0 H locs) (hA : ∀ q, H0.size ≤ q → A0 q)
    {n : Int32} {N : Nat} (hn : ¬ n < 0) (hN : n.toNatClampNeg = N) (hby : N * componentBytes .long ≤ 536870912) (hc : cells + 1 ≤ R.cells) (hs : slots + N ≤ R.slots) (hdg : decode cc pc = .ok (.newarray .long, 2))
    (kk : ∀ (q : Nat) (H1 : Heap), va_P D cl (w ++ [(q, .inl (cL, N, .inr (.inl (fun _ => 0))))]) H1 → va_D A0 (w ++ [(q, .inl (cL, N, .inr (.inl (fun _ => 0))))]) → va_S A0 H0 H1 locs → W p l e R s m args below meth c H1 locs (cells + 1) (slots + N) Q (F0 m (pc + 2) ls (.ref q :: rest))) :
    W p l e R s m args below meth c H locs cells slots Q (F0 m pc ls (.int n :: rest)) := by
  refine va_newa (atype := .long) (ty := .long) (a0 := (N, .inr (.inl (fun _ => 0)))) hx hb harr rfl hK hP hD hS hA (fun _ => rfl) hn hN hby hc hs hdg (fun q cA H1 hK1 hP1 hD1 hS1 => ?_)
  have e1 : cA = cL := x_sameL (hK1.2 3 _ rfl).2 (hK1.2 2 _ rfl).2
  subst e1
  exact kk q H1 hP1 hD1 hS1
end XN
set_option maxHeartbeats 8000000 in
set_option maxRecDepth 100000 in
theorem whole_start {p : Program} {e : Env} {s : State} {m : MethodId} {below : List Frame} {meth : Method} {c : Code} (l : Launch) (hl9 : l.stackTraces = false) {b L : Nat} {xs : Nat → Int32} (hL : L ≤ 2560) (hw : wl_law xs L 513 (sF x00 5 (600 : Int32)) x00 x00 x00 (sF x00 2 (600 : Int32)) (fun _ => 0) (0 : Int32)) (C0 : lw_At p s m meth c b L xs) : W p l e room_1 s m #[Value.ref b] below meth c s.heap [] 0 0 (lw_Z below #[Value.ref b] s) (entryFrame m ([Value.ref b] : List Value).toArray 7) := by
  obtain ⟨hx, hb, hr, hml, hown, hts0, hX, hbl, hlocks, hgv⟩ := id C0
  have hts : ∀ w ∈ gG, w.before #[Value.ref b] s = true := fun w h => hts0 w (List.mem_filter.mp h).1
  have hA : ∀ q : Nat, s.heap.size ≤ q → (fun q : Nat => s.heap.size ≤ q) q := fun _ h => h
  have hbA : ¬ (fun q : Nat => s.heap.size ≤ q) b := Nat.not_le.mpr hbl
  obtain ⟨sa, hE⟩ := start_E hts0 hgv
  have hN := start_N hgv
  obtain ⟨c0, iS0, hKn0⟩ := u_known (C := "ReleaseRows$IncidentRows") (T := T_I) (N := 10) (n := 10) hts in_I (hts _ k_97)
  obtain ⟨c1, iS1, hKn1⟩ := u_known (C := "ReleaseRows$UnitRows") (T := T_U) (N := 11) (n := 11) hts in_U (hts _ k_48)
  obtain ⟨c2, iS2, hKn2⟩ := u_known (C := "ReleaseRows$WaitingRow") (T := T_W) (N := 2) (n := 2) hts in_W (hts _ k_144)
  obtain ⟨c3, iS3, hKn3⟩ := u_known (C := "ReleaseRows") (T := T_R) (N := 6) (n := 6) hts in_R (hts _ k_40)
  obtain ⟨c4, iS4, hKn4⟩ := u_known (C := "ReleaseRowsModel") (T := T_M) (N := 27) (n := 27) hts in_M (hts _ k_571)
  obtain ⟨cI, hAcI, hFcI⟩ := x_arr (hts _ k_95)
  obtain ⟨cZ, hAcZ, hFcZ⟩ := x_arr (hts _ k_142)
  obtain ⟨cL, hAcL, hFcL⟩ := x_arr (hts _ k_800)
  obtain ⟨dC, dI, hKc⟩ : ∃ (dC : Nat → ClassId) (dI : Nat → Nat → Nat), ∀ (k : Nat) (q : vw_C), vwCl[k]? = some q → u_Kn s q.1 q.2.1 q.2.2 (dC k) (dI k) := by
    refine ⟨fun k => if k = 0 then c0 else if k = 1 then c1 else if k = 2 then c2 else if k = 3 then c3 else c4, fun k => if k = 0 then iS0 else if k = 1 then iS1 else if k = 2 then iS2 else if k = 3 then iS3 else iS4, ?_⟩
    intro k q hq
    match k, hq with
    | 0, hq => cases hq; exact hKn0
    | 1, hq => cases hq; exact hKn1
    | 2, hq => cases hq; exact hKn2
    | 3, hq => cases hq; exact hKn3
    | 4, hq => cases hq; exact hKn4
    | k + 5, hq => simp [vwCl] at hq
  have hK : va_K (dC, dI) vwCl [(cI, .int), (cZ, .boolean), (cL, .long)] s := by
    refine ⟨hKc, fun k q h => ?_⟩
    match k, h with
    | 0, h => cases h; exact ⟨hAcI, hFcI⟩
    | 1, h => cases h; exact ⟨hAcZ, hFcZ⟩
    | 2, h => cases h; exact ⟨hAcL, hFcL⟩
    | k + 3, h => simp at h
  have hS : va_S (fun q : Nat => s.heap.size ≤ q) s.heap s.heap [] := va_S.rf
  have hP : va_P (dC, dI) vwCl [] s.heap := fun k q h => by simp at h
  have hD : va_D (fun q : Nat => s.heap.size ≤ q) [] := ⟨fun i j p q h => by simp at h, fun k q h => by simp at h⟩
  have hl := lv_entry ([.ref b]) (n := 7) (Nat.le_of_ble_eq_true rfl)
  rw [lg_entry_eq]
  generalize (lg_sl ([.ref b]) ++ List.replicate (7 - (lg_sl ([.ref b])).length) Slot.unset).toArray = ls at hl ⊢
  have hl : lv_has ls 7 [(0, .ref b)] := hl
  refine va_new (ci := 3) (fs := [.null, .null, .null, .null, .int (0 : Int32), .int (0 : Int32)]) (C := "ReleaseRows") (T := T_R) (N := 6) hx hb hts in_R ty_R tyok_R hown (hts _ k_39) (hts _ k_40) (hts _ k_26) hK hP hD hS hA rfl (fun j hj => by match j, hj with | 0, _ => rfl | 1, _ => rfl | 2, _ => rfl | 3, _ => rfl | 4, _ => rfl | 5, _ => rfl | j + 6, hj => exact absurd hj (by omega)) (Nat.le_of_ble_eq_true rfl) (Nat.le_of_ble_eq_true rfl) d_L_law_0 (fun hR H hP hD hS => ?_)
  have hP : va_P (dC, dI) vwCl ([(hR, .inr (3, [.null, .null, .null, .null, .int (0 : Int32), .int (0 : Int32)]))]) H := hP
  have hD : va_D (fun q : Nat => s.heap.size ≤ q) ([(hR, .inr (3, [.null, .null, .null, .null, .int (0 : Int32), .int (0 : Int32)]))]) := hD
  refine lv_dup hx hb d_L_law_3 rfl ?_
  refine x_cv (w2 := fun u => (wd_RUIW u.1 u.2.1 u.2.2.1 u.2.2.2 cI cZ cL (sF x00 5 (600 : Int32)) x00 x00 x00)) [0] [] [0, 1, 2, 3, 4, 5, 6, 7, 8, 9, 10, 11, 12, 13, 14, 15, 16, 17, 18, 19, 20, 21, 22, 23, 24] (va_runI (As := []) (rest := [.ref hR]) ⟨hx, hb, hml, hown, hts⟩ (c_R_init l dC dI cI cZ cL hR _) (cwI 0 hts (x_gC k_43) rfl rfl rfl (hts _ k_26) (hts _ k_41) (hts _ k_42) rfl (by decide +kernel) ⟨(Nat.le_of_ble_eq_true rfl), (Nat.le_of_ble_eq_true rfl)⟩) ⟨x_blind3, fun U hU hW => x_pre3 (isC := [0]) hK hP hD (start_3 hts0) rfl rfl hU hW⟩ rfl rfl hl.1 rfl (lv_room (Nat.le_of_ble_eq_true rfl)) d_L_law_4 ⟨(Nat.le_of_ble_eq_true rfl), (Nat.le_of_ble_eq_true rfl)⟩) hP hD hS hA rfl rfl rfl (by decide) (fun _ => rfl) rfl (fun u H locs he hP hD hS => ?_)
  obtain ⟨qR, qU, qI, qW⟩ := u
  have he : hR = qR 0 := he.symm
  rw [he]
  have hP : va_P (dC, dI) vwCl (wd_RUIW qR qU qI qW cI cZ cL (sF x00 5 (600 : Int32)) x00 x00 x00) H := hP
  have hD : va_D (fun q : Nat => s.heap.size ≤ q) (wd_RUIW qR qU qI qW cI cZ cL (sF x00 5 (600 : Int32)) x00 x00 x00) := hD
  refine lv_astore_n (lv' := [(1, .ref (qR 0)), (0, .ref b)]) hx hb d_L_law_7 rfl hl (by decide) rfl (fun ls hl => ?_)
  refine va_new (ci := 4) (fs := [.int (0 : Int32), .int (0 : Int32), .int (0 : Int32), .int (0 : Int32), .null, .null, .null, .null, .null, .null, .null, .null, .null, .null, .null, .int (0 : Int32), .null, .null, .null, .null, .null, .null, .null, .null, .null, .int (0 : Int32), .null]) (C := "ReleaseRowsModel") (T := T_M) (N := 27) hx hb hts in_M ty_M tyok_M hown (hts _ k_570) (hts _ k_571) (hts _ k_30) hK hP hD hS hA rfl (fun j hj => by match j, hj with | 0, _ => rfl | 1, _ => rfl | 2, _ => rfl | 3, _ => rfl | 4, _ => rfl | 5, _ => rfl | 6, _ => rfl | 7, _ => rfl | 8, _ => rfl | 9, _ => rfl | 10, _ => rfl | 11, _ => rfl | 12, _ => rfl | 13, _ => rfl | 14, _ => rfl | 15, _ => rfl | 16, _ => rfl | 17, _ => rfl | 18, _ => rfl | 19, _ => rfl | 20, _ => rfl | 21, _ => rfl | 22, _ => rfl | 23, _ => rfl | 24, _ => rfl | 25, _ => rfl | 26, _ => rfl | j + 27, hj => exact absurd hj (by omega)) (Nat.le_of_ble_eq_true rfl) (Nat.le_of_ble_eq_true rfl) d_L_law_8 (fun hM H hP hD hS => ?_)
  have hP : va_P (dC, dI) vwCl ((wd_RUIW qR qU qI qW cI cZ cL (sF x00 5 (600 : Int32)) x00 x00 x00) ++ [(hM, .inr (4, [.int (0 : Int32), .int (0 : Int32), .int (0 : Int32), .int (0 : Int32), .null, .null, .null, .null, .null, .null, .null, .null, .null, .null, .null, .int (0 : Int32), .null, .null, .null, .null, .null, .null, .null, .null, .null, .int (0 : Int32), .null]))]) H := hP
  have hD : va_D (fun q : Nat => s.heap.size ≤ q) ((wd_RUIW qR qU qI qW cI cZ cL (sF x00 5 (600 : Int32)) x00 x00 x00) ++ [(hM, .inr (4, [.int (0 : Int32), .int (0 : Int32), .int (0 : Int32), .int (0 : Int32), .null, .null, .null, .null, .null, .null, .null, .null, .null, .null, .null, .int (0 : Int32), .null, .null, .null, .null, .null, .null, .null, .null, .null, .int (0 : Int32), .null]))]) := hD
  refine lv_dup hx hb d_L_law_11 rfl ?_
  refine x_cv (w2 := fun q => (wd_RUIW qR qU qI qW cI cZ cL (sF x00 5 (600 : Int32)) x00 x00 x00) ++ (wd_M q cI cZ cL (sF x00 2 (600 : Int32)))) [25] [0, 1, 2, 3, 4, 5, 6, 7, 8, 9, 10, 11, 12, 13, 14, 15, 16, 17, 18, 19, 20, 21, 22, 23, 24] [0, 1, 2, 3, 4, 5, 6, 7, 8, 9, 10, 11, 12, 13, 14, 15, 16, 17, 18, 19, 20, 21, 22, 23, 24, 25, 26, 27, 28, 29, 30, 31, 32, 33, 34, 35, 36, 37, 38, 39, 40, 41, 42, 43, 44, 45, 46] (va_runI (As := []) (rest := [.ref hM]) ⟨hx, hb, hml, hown, hts⟩ (c_M_init l dC dI cI cZ cL hM _) (cwI 0 hts (x_gC k_574) rfl rfl rfl (hts _ k_30) (hts _ k_572) (hts _ k_573) rfl (by decide +kernel) ⟨(Nat.le_of_ble_eq_true rfl), (Nat.le_of_ble_eq_true rfl)⟩) ⟨x_blind, fun U hU hW => x_pre (isC := [25]) hK hP hD rfl rfl hU hW⟩ rfl rfl hl.1 rfl (lv_room (Nat.le_of_ble_eq_true rfl)) d_L_law_12 ⟨(Nat.le_of_ble_eq_true rfl), (Nat.le_of_ble_eq_true rfl)⟩) hP hD hS hA rfl rfl rfl (by decide) (fun _ => rfl) rfl (fun qM H locs he hP hD hS => ?_)
  have he : hM = qM 0 := he.symm
  rw [he]
  refine lv_astore_n (lv' := [(2, .ref (qM 0)), (1, .ref (qR 0)), (0, .ref b)]) hx hb d_L_law_15 rfl hl (by decide) rfl (fun ls hl => ?_)
  refine lv_iconst (v := (1 : Int32)) hx hb d_L_law_16 (by decide) ?_
  refine x_newL (N := 1) hx hb (hts _ k_800) hK hP hD hS hA (by decide) (by decide) (by decide) (Nat.le_of_ble_eq_true rfl) (Nat.le_of_ble_eq_true rfl) d_L_law_17 (fun qo H hP hD hS => ?_)
  have hP : va_P (dC, dI) vwCl (wd_RUIWMo qR qU qI qW qM qo cI cZ cL (sF x00 5 (600 : Int32)) x00 x00 x00 (sF x00 2 (600 : Int32)) (fun _ => 0)) H := hP
  have hD : va_D (fun q : Nat => s.heap.size ≤ q) (wd_RUIWMo qR qU qI qW qM qo cI cZ cL (sF x00 5 (600 : Int32)) x00 x00 x00 (sF x00 2 (600 : Int32)) (fun _ => 0)) := hD
  refine lv_astore_n (lv' := [(3, .ref qo), (2, .ref (qM 0)), (1, .ref (qR 0)), (0, .ref b)]) hx hb d_L_law_19 rfl hl (by decide) rfl (fun ls hl => ?_)
  refine lv_iconst (v := (0 : Int32)) hx hb d_L_law_20 (by decide) ?_
  refine lv_istore (lv' := [(4, .int (0 : Int32)), (3, .ref qo), (2, .ref (qM 0)), (1, .ref (qR 0)), (0, .ref b)]) hx hb d_L_law_21 hl (by decide) rfl (fun ls hl => ?_)
  refine W.widen (k := 48 + 0) (n := 1209 + 6 * 0) (Nat.le_of_ble_eq_true rfl) (Nat.le_of_ble_eq_true rfl) ?_
  exact law_loop hl9 C0 hK hE hN 513 0 (by omega) _ _ _ _ _ _ _ _ _ _ hw hP hD hS (lv_sub hl [4, 3, 2, 1, 0] rfl)
