def wl_law (xs : Nat → Int32) (L : Nat) : Nat → St → St → St → St → St → (Nat → Int64) → Int32 → Prop
  | 0 => fun _ _ _ _ _ _ _ => False
  | n9 + 1 => fun xR xU xI xW xM xo i4 => (((Int32.ofNat L) - (5 : Int32)) < i4 → (True)) ∧ (¬ ((Int32.ofNat L) - (5 : Int32)) < i4 → (vp_in i4 L ∧ ((((xs i4.toNatClampNeg) &&& (31 : Int32)) = (0 : Int32) → (wc_law_0 xs L (wl_law xs L n9) xR xU xI xW xM xo i4)) ∧ (¬ ((xs i4.toNatClampNeg) &&& (31 : Int32)) = (0 : Int32) → ((((xs i4.toNatClampNeg) &&& (31 : Int32)) = (1 : Int32) → (wc_law_1 xs L (wl_law xs L n9) xR xU xI xW xM xo i4)) ∧ (¬ ((xs i4.toNatClampNeg) &&& (31 : Int32)) = (1 : Int32) → ((((xs i4.toNatClampNeg) &&& (31 : Int32)) = (2 : Int32) → (wc_law_2 xs L (wl_law xs L n9) xR xU xI xW xM xo i4)) ∧ (¬ ((xs i4.toNatClampNeg) &&& (31 : Int32)) = (2 : Int32) → ((((xs i4.toNatClampNeg) &&& (31 : Int32)) = (3 : Int32) → (wc_law_3 xs L (wl_law xs L n9) xR xU xI xW xM xo i4)) ∧ (¬ ((xs i4.toNatClampNeg) &&& (31 : Int32)) = (3 : Int32) → ((((xs i4.toNatClampNeg) &&& (31 : Int32)) = (4 : Int32) → (wc_law_4 xs L (wl_law xs L n9) xR xU xI xW xM xo i4)) ∧ (¬ ((xs i4.toNatClampNeg) &&& (31 : Int32)) = (4 : Int32) → ((((xs i4.toNatClampNeg) &&& (31 : Int32)) = (5 : Int32) → (wc_law_5 xs L (wl_law xs L n9) xR xU xI xW xM xo i4)) ∧ (¬ ((xs i4.toNatClampNeg) &&& (31 : Int32)) = (5 : Int32) → ((((xs i4.toNatClampNeg) &&& (31 : Int32)) = (6 : Int32) → (wc_law_6 xs L (wl_law xs L n9) xR xU xI xW xM xo i4)) ∧ (¬ ((xs i4.toNatClampNeg) &&& (31 : Int32)) = (6 : Int32) → ((((xs i4.toNatClampNeg) &&& (31 : Int32)) = (7 : Int32) → (wc_law_7 xs L (wl_law xs L n9) xR xU xI xW xM xo i4)) ∧ (¬ ((xs i4.toNatClampNeg) &&& (31 : Int32)) = (7 : Int32) → ((((xs i4.toNatClampNeg) &&& (31 : Int32)) = (8 : Int32) → (wc_law_8 xs L (wl_law xs L n9) xR xU xI xW xM xo i4)) ∧ (¬ ((xs i4.toNatClampNeg) &&& (31 : Int32)) = (8 : Int32) → ((((xs i4.toNatClampNeg) &&& (31 : Int32)) = (9 : Int32) → (wc_law_9 xs L (wl_law xs L n9) xR xU xI xW xM xo i4)) ∧ (¬ ((xs i4.toNatClampNeg) &&& (31 : Int32)) = (9 : Int32) → ((((xs i4.toNatClampNeg) &&& (31 : Int32)) = (10 : Int32) → (wc_law_10 xs L (wl_law xs L n9) xR xU xI xW xM xo i4)) ∧ (¬ ((xs i4.toNatClampNeg) &&& (31 : Int32)) = (10 : Int32) → ((((xs i4.toNatClampNeg) &&& (31 : Int32)) = (11 : Int32) → (wc_law_11 xs L (wl_law xs L n9) xR xU xI xW xM xo i4)) ∧ (¬ ((xs i4.toNatClampNeg) &&& (31 : Int32)) = (11 : Int32) → ((((xs i4.toNatClampNeg) &&& (31 : Int32)) = (12 : Int32) → (wc_law_12 xs L (wl_law xs L n9) xR xU xI xW xM xo i4)) ∧ (¬ ((xs i4.toNatClampNeg) &&& (31 : Int32)) = (12 : Int32) → ((((xs i4.toNatClampNeg) &&& (31 : Int32)) = (13 : Int32) → (wc_law_13 xs L (wl_law xs L n9) xR xU xI xW xM xo i4)) ∧ (¬ ((xs i4.toNatClampNeg) &&& (31 : Int32)) = (13 : Int32) → ((((xs i4.toNatClampNeg) &&& (31 : Int32)) = (14 : Int32) → (wc_law_14 xs L (wl_law xs L n9) xR xU xI xW xM xo i4)) ∧ (¬ ((xs i4.toNatClampNeg) &&& (31 : Int32)) = (14 : Int32) → ((((xs i4.toNatClampNeg) &&& (31 : Int32)) = (15 : Int32) → (wc_law_15 xs L (wl_law xs L n9) xR xU xI xW xM xo i4)) ∧ (¬ ((xs i4.toNatClampNeg) &&& (31 : Int32)) = (15 : Int32) → ((((xs i4.toNatClampNeg) &&& (31 : Int32)) = (16 : Int32) → (wc_law_16 xs L (wl_law xs L n9) xR xU xI xW xM xo i4)) ∧ (¬ ((xs i4.toNatClampNeg) &&& (31 : Int32)) = (16 : Int32) → (∀ v4_1120 : Int32, v4_1120 = i4 + 5 → ((wl_law xs L n9) xR xU xI xW xM xo v4_1120))))))))))))))))))))))))))))))))))))))
set_option maxHeartbeats 8000000 in
set_option maxRecDepth 100000 in
theorem law_loop {p : Program} {l : Launch} {e : Env} {s : State} {m : MethodId} {below : List Frame} {meth : Method} {c : Code} {dC : Nat → ClassId} {dI : Nat → Nat → Nat} {cI cZ cL : ClassId} {qR qU qI qW qM : Nat → Nat} {qo : Nat} {sa : Nat → Nat} {b L : Nat} {xs : Nat → Int32} (hl9 : l.stackTraces = false) (C0 : lw_At p s m meth c b L xs) (hK : va_K (dC, dI) vwCl [(cI, .int), (cZ, .boolean), (cL, .long)] s) (hE : xE "ReleaseRows" xTx sa (fun q : Nat => s.heap.size ≤ q) s.heap s) (hN : xN s) : ∀ (n j : Nat), j + n ≤ 513 → ∀ (xR : St) (xU : St) (xI : St) (xW : St) (xM : St) (xo : (Nat → Int64)) (i4 : Int32) (H : Heap) (locs : List Loc) (ls : Array Slot), wl_law xs L n xR xU xI xW xM xo i4 → va_P (dC, dI) vwCl (wd_RUIWMo qR qU qI qW qM qo cI cZ cL xR xU xI xW xM xo) H → va_D (fun q : Nat => s.heap.size ≤ q) (wd_RUIWMo qR qU qI qW qM qo cI cZ cL xR xU xI xW xM xo) → va_S (fun q : Nat => s.heap.size ≤ q) s.heap H locs → lv_has ls 7 [(0, .ref b), (1, .ref (qR 0)), (2, .ref (qM 0)), (3, .ref qo), (4, .int i4)] → W p l e room_1 s m #[Value.ref b] below meth c H locs (48 + j) (1209 + 6 * j) (lw_Z below #[Value.ref b] s) (F0 m 23 ls []) := by
  have C1 := C0
  obtain ⟨hx, hb, hr, hml, hown, hts0, hX, hbl, hlocks, hgv⟩ := C0
  have hts : ∀ w ∈ gG, w.before #[Value.ref b] s = true := fun w h => hts0 w (List.mem_filter.mp h).1
  have hA : ∀ q : Nat, s.heap.size ≤ q → (fun q : Nat => s.heap.size ≤ q) q := fun _ h => h
  have hbA : ¬ (fun q : Nat => s.heap.size ≤ q) b := Nat.not_le.mpr hbl
  intro n
  induction n with
  | zero => intro j hj xR xU xI xW xM xo i4 H locs ls hw; exact hw.elim
  | succ n ih =>
    intro j hj xR xU xI xW xM xo i4 H locs ls hw hP hD hS hl
    have hLj : j ≤ 512 := by omega
    have ihn : ∀ j1 : Nat, j1 = j + 1 → ∀ (xR : St) (xU : St) (xI : St) (xW : St) (xM : St) (xo : (Nat → Int64)) (i4 : Int32) (H : Heap) (locs : List Loc) (ls : Array Slot), wl_law xs L n xR xU xI xW xM xo i4 → va_P (dC, dI) vwCl (wd_RUIWMo qR qU qI qW qM qo cI cZ cL xR xU xI xW xM xo) H → va_D (fun q : Nat => s.heap.size ≤ q) (wd_RUIWMo qR qU qI qW qM qo cI cZ cL xR xU xI xW xM xo) → va_S (fun q : Nat => s.heap.size ≤ q) s.heap H locs → lv_has ls 7 [(0, .ref b), (1, .ref (qR 0)), (2, .ref (qM 0)), (3, .ref qo), (4, .int i4)] → W p l e room_1 s m #[Value.ref b] below meth c H locs (48 + j1) (1209 + 6 * j1) (lw_Z below #[Value.ref b] s) (F0 m 23 ls []) := fun j1 hj1 => ih j1 (by omega)
    unfold wl_law at hw
    refine lv_iload hx hb d_L_law_23 (lv_at hl 4 rfl) ?_
    refine lv_aload_n hx hb d_L_law_25 rfl (lv_at hl 0 rfl) ?_
    refine va_slen hx hb hX hbl hbA hS d_L_law_26 ?_
    refine lv_iconst (v := (5 : Int32)) hx hb d_L_law_27 (by decide) ?_
    refine lv_isub hx hb d_L_law_28 ?_
    refine lv_icmp_gt (tgt := 1126) hx hb d_L_law_29 (by decide) (fun c29 => ?_) (fun c29 => ?_)
    · have hw := hw.1 c29
      refine lv_iconst (v := (1 : Int32)) hx hb d_L_law_1126 (by decide) ?_
      refine va_forget (fun q hq => hS.2.2 q hq) ?_
      refine W.widen (k := 1078) (n := 9437) (by omega) (by omega) ?_
      exact lw_ret hx hb hr hlocks d_L_law_1127
    · have hw := hw.2 c29
      refine lv_aload_n hx hb d_L_law_32 rfl (lv_at hl 0 rfl) ?_
      refine lv_iload hx hb d_L_law_33 (lv_at hl 4 rfl) ?_
      obtain ⟨h35, hw⟩ := hw
      refine va_sld hx hb hX hbl hbA hS h35 d_L_law_35 ?_
      refine lv_bipush (v := (31 : Int32)) hx hb d_L_law_36 (by decide) ?_
      refine lv_iand hx hb d_L_law_38 ?_
      by_cases c39_0 : ((xs i4.toNatClampNeg) &&& (31 : Int32)) = (0 : Int32)
      · have hw := hw.1 c39_0
        refine lv_tableIn (off := 81) (tgt := 120) hx hb d_L_law_39 (by rw [c39_0]; decide) (by rw [c39_0]; decide) (by rw [c39_0]; decide) (by decide) ?_
        exact lawcase_0 hl9 hLj C1 hK hE hN ihn xR xU xI xW xM xo i4 _ _ _ hw hP hD hS (lv_sub hl [0, 1, 2, 3, 4] rfl)
      · have hw := hw.2 c39_0
        by_cases c39_1 : ((xs i4.toNatClampNeg) &&& (31 : Int32)) = (1 : Int32)
        · have hw := hw.1 c39_1
          refine lv_tableIn (off := 173) (tgt := 212) hx hb d_L_law_39 (by rw [c39_1]; decide) (by rw [c39_1]; decide) (by rw [c39_1]; decide) (by decide) ?_
          exact lawcase_1 hl9 hLj C1 hK hE hN ihn xR xU xI xW xM xo i4 _ _ _ hw hP hD hS (lv_sub hl [0, 1, 2, 3, 4] rfl)
        · have hw := hw.2 c39_1
          by_cases c39_2 : ((xs i4.toNatClampNeg) &&& (31 : Int32)) = (2 : Int32)
          · have hw := hw.1 c39_2
            refine lv_tableIn (off := 221) (tgt := 260) hx hb d_L_law_39 (by rw [c39_2]; decide) (by rw [c39_2]; decide) (by rw [c39_2]; decide) (by decide) ?_
            exact lawcase_2 hl9 hLj C1 hK hE hN ihn xR xU xI xW xM xo i4 _ _ _ hw hP hD hS (lv_sub hl [0, 1, 2, 3, 4] rfl)
          · have hw := hw.2 c39_2
            by_cases c39_3 : ((xs i4.toNatClampNeg) &&& (31 : Int32)) = (3 : Int32)
            · have hw := hw.1 c39_3
              refine lv_tableIn (off := 257) (tgt := 296) hx hb d_L_law_39 (by rw [c39_3]; decide) (by rw [c39_3]; decide) (by rw [c39_3]; decide) (by decide) ?_
              exact lawcase_3 hl9 hLj C1 hK hE hN ihn xR xU xI xW xM xo i4 _ _ _ hw hP hD hS (lv_sub hl [0, 1, 2, 3, 4] rfl)
            · have hw := hw.2 c39_3
              by_cases c39_4 : ((xs i4.toNatClampNeg) &&& (31 : Int32)) = (4 : Int32)
              · have hw := hw.1 c39_4
                refine lv_tableIn (off := 341) (tgt := 380) hx hb d_L_law_39 (by rw [c39_4]; decide) (by rw [c39_4]; decide) (by rw [c39_4]; decide) (by decide) ?_
                exact lawcase_4 hl9 hLj C1 hK hE hN ihn xR xU xI xW xM xo i4 _ _ _ hw hP hD hS (lv_sub hl [0, 1, 2, 3, 4] rfl)
              · have hw := hw.2 c39_4
                by_cases c39_5 : ((xs i4.toNatClampNeg) &&& (31 : Int32)) = (5 : Int32)
                · have hw := hw.1 c39_5
                  refine lv_tableIn (off := 389) (tgt := 428) hx hb d_L_law_39 (by rw [c39_5]; decide) (by rw [c39_5]; decide) (by rw [c39_5]; decide) (by decide) ?_
                  exact lawcase_5 hl9 hLj C1 hK hE hN ihn xR xU xI xW xM xo i4 _ _ _ hw hP hD hS (lv_sub hl [0, 1, 2, 3, 4] rfl)
                · have hw := hw.2 c39_5
                  by_cases c39_6 : ((xs i4.toNatClampNeg) &&& (31 : Int32)) = (6 : Int32)
                  · have hw := hw.1 c39_6
                    refine lv_tableIn (off := 457) (tgt := 496) hx hb d_L_law_39 (by rw [c39_6]; decide) (by rw [c39_6]; decide) (by rw [c39_6]; decide) (by decide) ?_
                    exact lawcase_6 hl9 hLj C1 hK hE hN ihn xR xU xI xW xM xo i4 _ _ _ hw hP hD hS (lv_sub hl [0, 1, 2, 3, 4] rfl)
                  · have hw := hw.2 c39_6
                    by_cases c39_7 : ((xs i4.toNatClampNeg) &&& (31 : Int32)) = (7 : Int32)
                    · have hw := hw.1 c39_7
                      refine lv_tableIn (off := 493) (tgt := 532) hx hb d_L_law_39 (by rw [c39_7]; decide) (by rw [c39_7]; decide) (by rw [c39_7]; decide) (by decide) ?_
                      exact lawcase_7 hl9 hLj C1 hK hE hN ihn xR xU xI xW xM xo i4 _ _ _ hw hP hD hS (lv_sub hl [0, 1, 2, 3, 4] rfl)
                    · have hw := hw.2 c39_7
                      by_cases c39_8 : ((xs i4.toNatClampNeg) &&& (31 : Int32)) = (8 : Int32)
                      · have hw := hw.1 c39_8
                        refine lv_tableIn (off := 573) (tgt := 612) hx hb d_L_law_39 (by rw [c39_8]; decide) (by rw [c39_8]; decide) (by rw [c39_8]; decide) (by decide) ?_
                        exact lawcase_8 hl9 hLj C1 hK hE hN ihn xR xU xI xW xM xo i4 _ _ _ hw hP hD hS (lv_sub hl [0, 1, 2, 3, 4] rfl)
                      · have hw := hw.2 c39_8
                        by_cases c39_9 : ((xs i4.toNatClampNeg) &&& (31 : Int32)) = (9 : Int32)
                        · have hw := hw.1 c39_9
                          refine lv_tableIn (off := 641) (tgt := 680) hx hb d_L_law_39 (by rw [c39_9]; decide) (by rw [c39_9]; decide) (by rw [c39_9]; decide) (by decide) ?_
                          exact lawcase_9 hl9 hLj C1 hK hE hN ihn xR xU xI xW xM xo i4 _ _ _ hw hP hD hS (lv_sub hl [0, 1, 2, 3, 4] rfl)
                        · have hw := hw.2 c39_9
                          by_cases c39_10 : ((xs i4.toNatClampNeg) &&& (31 : Int32)) = (10 : Int32)
                          · have hw := hw.1 c39_10
                            refine lv_tableIn (off := 689) (tgt := 728) hx hb d_L_law_39 (by rw [c39_10]; decide) (by rw [c39_10]; decide) (by rw [c39_10]; decide) (by decide) ?_
                            exact lawcase_10 hl9 hLj C1 hK hE hN ihn xR xU xI xW xM xo i4 _ _ _ hw hP hD hS (lv_sub hl [0, 1, 2, 3, 4] rfl)
                          · have hw := hw.2 c39_10
                            by_cases c39_11 : ((xs i4.toNatClampNeg) &&& (31 : Int32)) = (11 : Int32)
                            · have hw := hw.1 c39_11
                              refine lv_tableIn (off := 737) (tgt := 776) hx hb d_L_law_39 (by rw [c39_11]; decide) (by rw [c39_11]; decide) (by rw [c39_11]; decide) (by decide) ?_
                              exact lawcase_11 hl9 hLj C1 hK hE hN ihn xR xU xI xW xM xo i4 _ _ _ hw hP hD hS (lv_sub hl [0, 1, 2, 3, 4] rfl)
                            · have hw := hw.2 c39_11
                              by_cases c39_12 : ((xs i4.toNatClampNeg) &&& (31 : Int32)) = (12 : Int32)
                              · have hw := hw.1 c39_12
                                refine lv_tableIn (off := 785) (tgt := 824) hx hb d_L_law_39 (by rw [c39_12]; decide) (by rw [c39_12]; decide) (by rw [c39_12]; decide) (by decide) ?_
                                exact lawcase_12 hl9 hLj C1 hK hE hN ihn xR xU xI xW xM xo i4 _ _ _ hw hP hD hS (lv_sub hl [0, 1, 2, 3, 4] rfl)
                              · have hw := hw.2 c39_12
                                by_cases c39_13 : ((xs i4.toNatClampNeg) &&& (31 : Int32)) = (13 : Int32)
                                · have hw := hw.1 c39_13
                                  refine lv_tableIn (off := 833) (tgt := 872) hx hb d_L_law_39 (by rw [c39_13]; decide) (by rw [c39_13]; decide) (by rw [c39_13]; decide) (by decide) ?_
                                  exact lawcase_13 hl9 hLj C1 hK hE hN ihn xR xU xI xW xM xo i4 _ _ _ hw hP hD hS (lv_sub hl [0, 1, 2, 3, 4] rfl)
                                · have hw := hw.2 c39_13
                                  by_cases c39_14 : ((xs i4.toNatClampNeg) &&& (31 : Int32)) = (14 : Int32)
                                  · have hw := hw.1 c39_14
                                    refine lv_tableIn (off := 889) (tgt := 928) hx hb d_L_law_39 (by rw [c39_14]; decide) (by rw [c39_14]; decide) (by rw [c39_14]; decide) (by decide) ?_
                                    exact lawcase_14 hl9 hLj C1 hK hE hN ihn xR xU xI xW xM xo i4 _ _ _ hw hP hD hS (lv_sub hl [0, 1, 2, 3, 4] rfl)
                                  · have hw := hw.2 c39_14
                                    by_cases c39_15 : ((xs i4.toNatClampNeg) &&& (31 : Int32)) = (15 : Int32)
                                    · have hw := hw.1 c39_15
                                      refine lv_tableIn (off := 957) (tgt := 996) hx hb d_L_law_39 (by rw [c39_15]; decide) (by rw [c39_15]; decide) (by rw [c39_15]; decide) (by decide) ?_
                                      exact lawcase_15 hl9 hLj C1 hK hE hN ihn xR xU xI xW xM xo i4 _ _ _ hw hP hD hS (lv_sub hl [0, 1, 2, 3, 4] rfl)
                                    · have hw := hw.2 c39_15
                                      by_cases c39_16 : ((xs i4.toNatClampNeg) &&& (31 : Int32)) = (16 : Int32)
                                      · have hw := hw.1 c39_16
                                        refine lv_tableIn (off := 1025) (tgt := 1064) hx hb d_L_law_39 (by rw [c39_16]; decide) (by rw [c39_16]; decide) (by rw [c39_16]; decide) (by decide) ?_
                                        exact lawcase_16 hl9 hLj C1 hK hE hN ihn xR xU xI xW xM xo i4 _ _ _ hw hP hD hS (lv_sub hl [0, 1, 2, 3, 4] rfl)
                                      · have hw := hw.2 c39_16
                                        refine lv_tableOut (tgt := 1120) hx hb d_L_law_39 (by have z0 := lv_neT (a := 0) c39_0 (by decide); have z1 := lv_neT (a := 1) c39_1 (by decide); have z2 := lv_neT (a := 2) c39_2 (by decide); have z3 := lv_neT (a := 3) c39_3 (by decide); have z4 := lv_neT (a := 4) c39_4 (by decide); have z5 := lv_neT (a := 5) c39_5 (by decide); have z6 := lv_neT (a := 6) c39_6 (by decide); have z7 := lv_neT (a := 7) c39_7 (by decide); have z8 := lv_neT (a := 8) c39_8 (by decide); have z9 := lv_neT (a := 9) c39_9 (by decide); have z10 := lv_neT (a := 10) c39_10 (by decide); have z11 := lv_neT (a := 11) c39_11 (by decide); have z12 := lv_neT (a := 12) c39_12 (by decide); have z13 := lv_neT (a := 13) c39_13 (by decide); have z14 := lv_neT (a := 14) c39_14 (by decide); have z15 := lv_neT (a := 15) c39_15 (by decide); have z16 := lv_neT (a := 16) c39_16 (by decide); omega) (by decide) ?_
                                        obtain ⟨v4_1120, ev4_1120⟩ : ∃ y : Int32, y = i4 + 5 := ⟨_, rfl⟩
                                        have hw := hw v4_1120 ev4_1120
                                        refine lv_iinc (v := v4_1120) (lv' := [(4, .int v4_1120), (0, .ref b), (1, .ref (qR 0)), (2, .ref (qM 0)), (3, .ref qo)]) hx hb d_L_law_1120 hl (k := 4) rfl (by rw [ev4_1120]; rfl) (by decide) rfl (fun ls hl => ?_)
                                        refine lv_goto (tgt := 23) hx hb d_L_law_1123 (by decide) ?_
                                        refine W.widen (k := 48 + (j + 1)) (n := 1209 + 6 * (j + 1)) (by omega) (by omega) ?_
                                        exact ih (j + 1) (by omega) xR xU xI xW xM xo v4_1120 _ _ _ hw hP hD hS (lv_sub hl [1, 2, 3, 4, 0] rfl)
