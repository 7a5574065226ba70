def xTx : List (Nat × String) := [(187, "a number outside its range"), (197, "no room"), (183, "no such number"), (192, "not in this state"), (153, "no such what")]
theorem at_151_155 : ∀ w ∈ (vx_atS "ReleaseRows" 155 "java/lang/IllegalArgumentException" ["java/lang/RuntimeException", "java/lang/Exception"]).filter goodWord, w ∈ gG := by decide +kernel
theorem at_151_155_g : ∀ w ∈ Cond.classLink "ReleaseRows" 151 "java/lang/IllegalArgumentException" :: Cond.initialized "java/lang/IllegalArgumentException" :: vx_atS "ReleaseRows" 155 "java/lang/IllegalArgumentException" ["java/lang/RuntimeException", "java/lang/Exception"], vx_ot w = true := by decide +kernel
theorem at_151_155_b : ∀ w ∈ (vx_atS "ReleaseRows" 155 "java/lang/IllegalArgumentException" ["java/lang/RuntimeException", "java/lang/Exception"]).filter (fun w => !goodWord w), w ∈ ([.castable "java/lang/IllegalArgumentException" "java/lang/IllegalArgumentException", .declares ⟨"java/lang/RuntimeException", "<init>", "(Ljava/lang/String;)V"⟩, .declares ⟨"java/lang/Exception", "<init>", "(Ljava/lang/String;)V"⟩, .declares ⟨"java/lang/Throwable", "<init>", "(Ljava/lang/String;)V"⟩] : List Cond) := by decide +kernel
theorem at_185_189 : ∀ w ∈ (vx_atS "ReleaseRows" 189 "java/lang/IndexOutOfBoundsException" ["java/lang/RuntimeException", "java/lang/Exception"]).filter goodWord, w ∈ gG := by decide +kernel
theorem at_185_189_g : ∀ w ∈ Cond.classLink "ReleaseRows" 185 "java/lang/IndexOutOfBoundsException" :: Cond.initialized "java/lang/IndexOutOfBoundsException" :: vx_atS "ReleaseRows" 189 "java/lang/IndexOutOfBoundsException" ["java/lang/RuntimeException", "java/lang/Exception"], vx_ot w = true := by decide +kernel
theorem at_185_189_b : ∀ w ∈ (vx_atS "ReleaseRows" 189 "java/lang/IndexOutOfBoundsException" ["java/lang/RuntimeException", "java/lang/Exception"]).filter (fun w => !goodWord w), w ∈ ([.castable "java/lang/IndexOutOfBoundsException" "java/lang/IndexOutOfBoundsException", .declares ⟨"java/lang/RuntimeException", "<init>", "(Ljava/lang/String;)V"⟩, .declares ⟨"java/lang/Exception", "<init>", "(Ljava/lang/String;)V"⟩, .declares ⟨"java/lang/Throwable", "<init>", "(Ljava/lang/String;)V"⟩] : List Cond) := by decide +kernel
theorem at_190_194 : ∀ w ∈ (vx_atS "ReleaseRows" 194 "java/lang/IllegalStateException" ["java/lang/RuntimeException", "java/lang/Exception"]).filter goodWord, w ∈ gG := by decide +kernel
theorem at_190_194_g : ∀ w ∈ Cond.classLink "ReleaseRows" 190 "java/lang/IllegalStateException" :: Cond.initialized "java/lang/IllegalStateException" :: vx_atS "ReleaseRows" 194 "java/lang/IllegalStateException" ["java/lang/RuntimeException", "java/lang/Exception"], vx_ot w = true := by decide +kernel
theorem at_190_194_b : ∀ w ∈ (vx_atS "ReleaseRows" 194 "java/lang/IllegalStateException" ["java/lang/RuntimeException", "java/lang/Exception"]).filter (fun w => !goodWord w), w ∈ ([.castable "java/lang/IllegalStateException" "java/lang/IllegalStateException", .declares ⟨"java/lang/RuntimeException", "<init>", "(Ljava/lang/String;)V"⟩, .declares ⟨"java/lang/Exception", "<init>", "(Ljava/lang/String;)V"⟩, .declares ⟨"java/lang/Throwable", "<init>", "(Ljava/lang/String;)V"⟩] : List Cond) := by decide +kernel
theorem at_195_199 : ∀ w ∈ (vx_atS "ReleaseRows" 199 "java/lang/UnsupportedOperationException" ["java/lang/RuntimeException", "java/lang/Exception"]).filter goodWord, w ∈ gG := by decide +kernel
theorem at_195_199_g : ∀ w ∈ Cond.classLink "ReleaseRows" 195 "java/lang/UnsupportedOperationException" :: Cond.initialized "java/lang/UnsupportedOperationException" :: vx_atS "ReleaseRows" 199 "java/lang/UnsupportedOperationException" ["java/lang/RuntimeException", "java/lang/Exception"], vx_ot w = true := by decide +kernel
theorem at_195_199_b : ∀ w ∈ (vx_atS "ReleaseRows" 199 "java/lang/UnsupportedOperationException" ["java/lang/RuntimeException", "java/lang/Exception"]).filter (fun w => !goodWord w), w ∈ ([.castable "java/lang/UnsupportedOperationException" "java/lang/UnsupportedOperationException", .declares ⟨"java/lang/RuntimeException", "<init>", "(Ljava/lang/String;)V"⟩, .declares ⟨"java/lang/Exception", "<init>", "(Ljava/lang/String;)V"⟩, .declares ⟨"java/lang/Throwable", "<init>", "(Ljava/lang/String;)V"⟩] : List Cond) := by decide +kernel
def wp_R_needKnown (a0 : Int32) (post : Unit → Prop) : Prop := (¬ a0 = 0 → (post ())) ∧ (a0 = 0 → (False))
set_option maxHeartbeats 4000000 in
set_option maxRecDepth 100000 in
theorem c_R_needKnown (l : Launch) (dC : Nat → ClassId) (dI : Nat → Nat → Nat) (cI cZ cL : ClassId)  (sz : Nat) (a0 : Int32) (post : Unit → Prop) (hw : wp_R_needKnown a0 post) : Met l y_R_needKnown w_R_needKnown ({ frames := 0, cells := 0, slots := 0, locals := 0 } : Room) (va_Pc [.int a0] (xP (dC, dI) vwCl [(cI, .int), (cZ, .boolean), (cL, .long)] ([] : va_W) sz)) (va_Qv post (xB (dC, dI) vwCl [(cI, .int), (cZ, .boolean), (cL, .long)] (va_A ([] : va_W) sz) (fun _ => ([] : va_W))) (va_A ([] : va_W) sz)) 0 0 (va_A ([] : va_W) sz) := by
  refine x_ofV (cc := b_R_needKnown) (maxL := 1) (by decide) rfl (Nat.le_of_ble_eq_true rfl) (fun p e s m below meth c A Q hx hb hml hts hown hin hK hA hP hD hS hret ls hl => ?_)
  have hl : lv_has ls 1 [(0, .int a0)] := hl
  unfold wp_R_needKnown at hw
  refine lv_iload_n hx hb d_R_needKnown_0 rfl (lv_at hl 0 rfl) ?_
  refine lv_if_ne (tgt := 14) hx hb d_R_needKnown_1 (by decide) (fun c1 => ?_) (fun c1 => ?_)
  · have hw := hw.1 c1
    exact hret () _ _ _ _ _ _ hw hP hD hS (Nat.le_of_ble_eq_true rfl) (Nat.le_of_ble_eq_true rfl) d_R_needKnown_14
  · have hw := hw.2 c1
    exact hw.elim

def wp_R_needKnownX (a0 : Int32) (post : Unit → Prop) (postX : String → Unit → Prop) : Prop := (¬ a0 = 0 → (post ())) ∧ (a0 = 0 → (postX "java/lang/IllegalArgumentException" ()))
set_option maxHeartbeats 4000000 in
set_option maxRecDepth 100000 in
theorem c_R_needKnownX (l : Launch) (hl9 : l.stackTraces = false) (sa : Nat → Nat) (dC : Nat → ClassId) (dI : Nat → Nat → Nat) (cI cZ cL : ClassId)  (sz : Nat) (a0 : Int32) (post : Unit → Prop) (postX : String → Unit → Prop) (hw : wp_R_needKnownX a0 post postX) : vx_Met l y_R_needKnown w_R_needKnown ({ frames := 6, cells := 1, slots := 6, locals := 90 } : Room) (va_Pc [.int a0] (fun U => xP (dC, dI) vwCl [(cI, .int), (cZ, .boolean), (cL, .long)] ([] : va_W) sz U ∧ xE "ReleaseRows" xTx sa (va_A ([] : va_W) sz) U.heap U)) (va_Qv post (xB (dC, dI) vwCl [(cI, .int), (cZ, .boolean), (cL, .long)] (va_A ([] : va_W) sz) (fun _ => ([] : va_W))) (va_A ([] : va_W) sz)) (vx_X (fun _ => True) (xBX (dC, dI) vwCl (va_A ([] : va_W) sz) postX (fun _ => ([] : va_W))) (va_A ([] : va_W) sz)) 1 6 (va_A ([] : va_W) sz) := by
  refine x_ofXV (cc := b_R_needKnown) (maxL := 1) (by decide) rfl (Nat.le_of_ble_eq_true rfl) (fun p e s m below meth c A Q hx hb hml hts hown hlocks hex hK hA hP hD hS hE hQ hret hthr ls hl => ?_)
  have hl : lv_has ls 1 [(0, .int a0)] := hl
  unfold wp_R_needKnownX at hw
  refine lv_iload_n hx hb d_R_needKnown_0 rfl (lv_at hl 0 rfl) ?_
  refine lv_if_ne (tgt := 14) hx hb d_R_needKnown_1 (by decide) (fun c1 => ?_) (fun c1 => ?_)
  · have hw := hw.1 c1
    exact hret () _ _ _ _ _ _ hw hP hD hS (Nat.le_of_ble_eq_true rfl) (Nat.le_of_ble_eq_true rfl) d_R_needKnown_14
  · have hw := hw.2 c1
    rw [hQ]
    exact vx_throwS (text := "no such number") (names := ["java/lang/RuntimeException", "java/lang/Exception"]) hx hb hl9 hown (by decide) (by decide) (hts _ k_371) (hts _ k_37) (hE.2.2.1 (183, "no such number") (by decide)) (vx_hat (fun w hw => hts w (at_151_155 w hw)) at_151_155_b (vx_c (va_Nw.use rfl (hE.2.2.2.1 _ (by decide))) (vx_c (va_Nw.use rfl (hE.2.2.2.2 _ (by decide))) (vx_c (va_Nw.use rfl (hE.2.2.2.2 _ (by decide))) (vx_c (va_Nw.use rfl (hE.2.2.2.2 _ (by decide))) vx_n))))) at_151_155_g hE.1 hE.2.1 hS (hl.1.trans hml.symm) d_R_needKnown_4 d_R_needKnown_7 d_R_needKnown_8 d_R_needKnown_10 d_R_needKnown_13 (fun x hx => (hex x hx).elim) (Nat.le_of_ble_eq_true rfl) (Nat.le_of_ble_eq_true rfl) (Nat.le_of_ble_eq_true rfl) (Nat.le_of_ble_eq_true rfl) hlocks (x_thrX (u := ()) hP hD hS hw) hS.2.2 (Nat.le_of_ble_eq_true rfl) (Nat.le_of_ble_eq_true rfl)

def wj_R_needRange_10 (a0 : Int32) (a1 : Int32) (a2 : Int32) (post : Unit → Prop)  : Prop := False
def wp_R_needRange (a0 : Int32) (a1 : Int32) (a2 : Int32) (post : Unit → Prop) : Prop := (a0 < a1 → (wj_R_needRange_10 a0 a1 a2 post )) ∧ (¬ a0 < a1 → ((a0 ≤ a2 → (post ())) ∧ (¬ a0 ≤ a2 → (wj_R_needRange_10 a0 a1 a2 post ))))
set_option maxHeartbeats 4000000 in
set_option maxRecDepth 100000 in
theorem c_R_needRange (l : Launch) (dC : Nat → ClassId) (dI : Nat → Nat → Nat) (cI cZ cL : ClassId)  (sz : Nat) (a0 : Int32) (a1 : Int32) (a2 : Int32) (post : Unit → Prop) (hw : wp_R_needRange a0 a1 a2 post) : Met l y_R_needRange w_R_needRange ({ frames := 0, cells := 0, slots := 0, locals := 0 } : Room) (va_Pc [.int a0, .int a1, .int a2] (xP (dC, dI) vwCl [(cI, .int), (cZ, .boolean), (cL, .long)] ([] : va_W) sz)) (va_Qv post (xB (dC, dI) vwCl [(cI, .int), (cZ, .boolean), (cL, .long)] (va_A ([] : va_W) sz) (fun _ => ([] : va_W))) (va_A ([] : va_W) sz)) 0 0 (va_A ([] : va_W) sz) := by
  refine x_ofV (cc := b_R_needRange) (maxL := 3) (by decide) rfl (Nat.le_of_ble_eq_true rfl) (fun p e s m below meth c A Q hx hb hml hts hown hin hK hA hP hD hS hret ls hl => ?_)
  have hl : lv_has ls 3 [(0, .int a0), (1, .int a1), (2, .int a2)] := hl
  have jn10 : ∀ (H : Heap) (locs : List Loc) (ls : Array Slot), wj_R_needRange_10 a0 a1 a2 post  → va_P (dC, dI) vwCl ([] : va_W) H → va_D A ([] : va_W) → va_S A s.heap H locs → lv_has ls 3 [] → W p l e (headSpec w_R_needRange ({ frames := 0, cells := 0, slots := 0, locals := 0 } : Room)).room s m ([.int a0, .int a1, .int a2] : List Value).toArray below meth c H locs 0 0 Q (F0 m 10 ls []) := by
    intro  H locs ls hw hP hD hS hl
    unfold wj_R_needRange_10 at hw
    exact hw.elim
  unfold wp_R_needRange at hw
  refine lv_iload_n hx hb d_R_needRange_0 rfl (lv_at hl 0 rfl) ?_
  refine lv_iload_n hx hb d_R_needRange_1 rfl (lv_at hl 1 rfl) ?_
  refine lv_icmp_lt (tgt := 10) hx hb d_R_needRange_2 (by decide) (fun c2 => ?_) (fun c2 => ?_)
  · have hw := hw.1 c2
    exact jn10 _ _ _ hw hP hD hS (lv_sub hl [] rfl)
  · have hw := hw.2 c2
    refine lv_iload_n hx hb d_R_needRange_5 rfl (lv_at hl 0 rfl) ?_
    refine lv_iload_n hx hb d_R_needRange_6 rfl (lv_at hl 2 rfl) ?_
    refine lv_icmp_le (tgt := 20) hx hb d_R_needRange_7 (by decide) (fun c7 => ?_) (fun c7 => ?_)
    · have hw := hw.1 c7
      exact hret () _ _ _ _ _ _ hw hP hD hS (Nat.le_of_ble_eq_true rfl) (Nat.le_of_ble_eq_true rfl) d_R_needRange_20
    · have hw := hw.2 c7
      exact jn10 _ _ _ hw hP hD hS (lv_sub hl [] rfl)

def wj_R_needRangeX_10 (a0 : Int32) (a1 : Int32) (a2 : Int32) (post : Unit → Prop) (postX : String → Unit → Prop)  : Prop := postX "java/lang/IndexOutOfBoundsException" ()
def wp_R_needRangeX (a0 : Int32) (a1 : Int32) (a2 : Int32) (post : Unit → Prop) (postX : String → Unit → Prop) : Prop := (a0 < a1 → (wj_R_needRangeX_10 a0 a1 a2 post postX )) ∧ (¬ a0 < a1 → ((a0 ≤ a2 → (post ())) ∧ (¬ a0 ≤ a2 → (wj_R_needRangeX_10 a0 a1 a2 post postX ))))
set_option maxHeartbeats 4000000 in
set_option maxRecDepth 100000 in
theorem c_R_needRangeX (l : Launch) (hl9 : l.stackTraces = false) (sa : Nat → Nat) (dC : Nat → ClassId) (dI : Nat → Nat → Nat) (cI cZ cL : ClassId)  (sz : Nat) (a0 : Int32) (a1 : Int32) (a2 : Int32) (post : Unit → Prop) (postX : String → Unit → Prop) (hw : wp_R_needRangeX a0 a1 a2 post postX) : vx_Met l y_R_needRange w_R_needRange ({ frames := 6, cells := 1, slots := 6, locals := 90 } : Room) (va_Pc [.int a0, .int a1, .int a2] (fun U => xP (dC, dI) vwCl [(cI, .int), (cZ, .boolean), (cL, .long)] ([] : va_W) sz U ∧ xE "ReleaseRows" xTx sa (va_A ([] : va_W) sz) U.heap U)) (va_Qv post (xB (dC, dI) vwCl [(cI, .int), (cZ, .boolean), (cL, .long)] (va_A ([] : va_W) sz) (fun _ => ([] : va_W))) (va_A ([] : va_W) sz)) (vx_X (fun _ => True) (xBX (dC, dI) vwCl (va_A ([] : va_W) sz) postX (fun _ => ([] : va_W))) (va_A ([] : va_W) sz)) 1 6 (va_A ([] : va_W) sz) := by
  refine x_ofXV (cc := b_R_needRange) (maxL := 3) (by decide) rfl (Nat.le_of_ble_eq_true rfl) (fun p e s m below meth c A Q hx hb hml hts hown hlocks hex hK hA hP hD hS hE hQ hret hthr ls hl => ?_)
  have hl : lv_has ls 3 [(0, .int a0), (1, .int a1), (2, .int a2)] := hl
  have jn10 : ∀ (H : Heap) (locs : List Loc) (ls : Array Slot), wj_R_needRangeX_10 a0 a1 a2 post postX  → va_P (dC, dI) vwCl ([] : va_W) H → va_D A ([] : va_W) → va_S A s.heap H locs → lv_has ls 3 [] → W p l e (headSpec w_R_needRange ({ frames := 6, cells := 1, slots := 6, locals := 90 } : Room)).room s m ([.int a0, .int a1, .int a2] : List Value).toArray below meth c H locs 0 0 Q (F0 m 10 ls []) := by
    intro  H locs ls hw hP hD hS hl
    unfold wj_R_needRangeX_10 at hw
    rw [hQ]
    exact vx_throwS (text := "a number outside its range") (names := ["java/lang/RuntimeException", "java/lang/Exception"]) hx hb hl9 hown (by decide) (by decide) (hts _ k_189) (hts _ k_34) (hE.2.2.1 (187, "a number outside its range") (by decide)) (vx_hat (fun w hw => hts w (at_185_189 w hw)) at_185_189_b (vx_c (va_Nw.use rfl (hE.2.2.2.1 _ (by decide))) (vx_c (va_Nw.use rfl (hE.2.2.2.2 _ (by decide))) (vx_c (va_Nw.use rfl (hE.2.2.2.2 _ (by decide))) (vx_c (va_Nw.use rfl (hE.2.2.2.2 _ (by decide))) vx_n))))) at_185_189_g hE.1 hE.2.1 hS (hl.1.trans hml.symm) d_R_needRange_10 d_R_needRange_13 d_R_needRange_14 d_R_needRange_16 d_R_needRange_19 (fun x hx => (hex x hx).elim) (Nat.le_of_ble_eq_true rfl) (Nat.le_of_ble_eq_true rfl) (Nat.le_of_ble_eq_true rfl) (Nat.le_of_ble_eq_true rfl) hlocks (x_thrX (u := ()) hP hD hS hw) hS.2.2 (Nat.le_of_ble_eq_true rfl) (Nat.le_of_ble_eq_true rfl)
  unfold wp_R_needRangeX at hw
  refine lv_iload_n hx hb d_R_needRange_0 rfl (lv_at hl 0 rfl) ?_
  refine lv_iload_n hx hb d_R_needRange_1 rfl (lv_at hl 1 rfl) ?_
  refine lv_icmp_lt (tgt := 10) hx hb d_R_needRange_2 (by decide) (fun c2 => ?_) (fun c2 => ?_)
  · have hw := hw.1 c2
    exact jn10 _ _ _ hw hP hD hS (lv_sub hl [] rfl)
  · have hw := hw.2 c2
    refine lv_iload_n hx hb d_R_needRange_5 rfl (lv_at hl 0 rfl) ?_
    refine lv_iload_n hx hb d_R_needRange_6 rfl (lv_at hl 2 rfl) ?_
    refine lv_icmp_le (tgt := 20) hx hb d_R_needRange_7 (by decide) (fun c7 => ?_) (fun c7 => ?_)
    · have hw := hw.1 c7
      exact hret () _ _ _ _ _ _ hw hP hD hS (Nat.le_of_ble_eq_true rfl) (Nat.le_of_ble_eq_true rfl) d_R_needRange_20
    · have hw := hw.2 c7
      exact jn10 _ _ _ hw hP hD hS (lv_sub hl [] rfl)

def wp_R_needState (a0 : Int32) (post : Unit → Prop) : Prop := (¬ a0 = 0 → (post ())) ∧ (a0 = 0 → (False))
set_option maxHeartbeats 4000000 in
set_option maxRecDepth 100000 in
theorem c_R_needState (l : Launch) (dC : Nat → ClassId) (dI : Nat → Nat → Nat) (cI cZ cL : ClassId)  (sz : Nat) (a0 : Int32) (post : Unit → Prop) (hw : wp_R_needState a0 post) : Met l y_R_needState w_R_needState ({ frames := 0, cells := 0, slots := 0, locals := 0 } : Room) (va_Pc [.int a0] (xP (dC, dI) vwCl [(cI, .int), (cZ, .boolean), (cL, .long)] ([] : va_W) sz)) (va_Qv post (xB (dC, dI) vwCl [(cI, .int), (cZ, .boolean), (cL, .long)] (va_A ([] : va_W) sz) (fun _ => ([] : va_W))) (va_A ([] : va_W) sz)) 0 0 (va_A ([] : va_W) sz) := by
  refine x_ofV (cc := b_R_needState) (maxL := 1) (by decide) rfl (Nat.le_of_ble_eq_true rfl) (fun p e s m below meth c A Q hx hb hml hts hown hin hK hA hP hD hS hret ls hl => ?_)
  have hl : lv_has ls 1 [(0, .int a0)] := hl
  unfold wp_R_needState at hw
  refine lv_iload_n hx hb d_R_needState_0 rfl (lv_at hl 0 rfl) ?_
  refine lv_if_ne (tgt := 14) hx hb d_R_needState_1 (by decide) (fun c1 => ?_) (fun c1 => ?_)
  · have hw := hw.1 c1
    exact hret () _ _ _ _ _ _ hw hP hD hS (Nat.le_of_ble_eq_true rfl) (Nat.le_of_ble_eq_true rfl) d_R_needState_14
  · have hw := hw.2 c1
    exact hw.elim

def wp_R_needStateX (a0 : Int32) (post : Unit → Prop) (postX : String → Unit → Prop) : Prop := (¬ a0 = 0 → (post ())) ∧ (a0 = 0 → (postX "java/lang/IllegalStateException" ()))
set_option maxHeartbeats 4000000 in
set_option maxRecDepth 100000 in
theorem c_R_needStateX (l : Launch) (hl9 : l.stackTraces = false) (sa : Nat → Nat) (dC : Nat → ClassId) (dI : Nat → Nat → Nat) (cI cZ cL : ClassId)  (sz : Nat) (a0 : Int32) (post : Unit → Prop) (postX : String → Unit → Prop) (hw : wp_R_needStateX a0 post postX) : vx_Met l y_R_needState w_R_needState ({ frames := 6, cells := 1, slots := 6, locals := 90 } : Room) (va_Pc [.int a0] (fun U => xP (dC, dI) vwCl [(cI, .int), (cZ, .boolean), (cL, .long)] ([] : va_W) sz U ∧ xE "ReleaseRows" xTx sa (va_A ([] : va_W) sz) U.heap U)) (va_Qv post (xB (dC, dI) vwCl [(cI, .int), (cZ, .boolean), (cL, .long)] (va_A ([] : va_W) sz) (fun _ => ([] : va_W))) (va_A ([] : va_W) sz)) (vx_X (fun _ => True) (xBX (dC, dI) vwCl (va_A ([] : va_W) sz) postX (fun _ => ([] : va_W))) (va_A ([] : va_W) sz)) 1 6 (va_A ([] : va_W) sz) := by
  refine x_ofXV (cc := b_R_needState) (maxL := 1) (by decide) rfl (Nat.le_of_ble_eq_true rfl) (fun p e s m below meth c A Q hx hb hml hts hown hlocks hex hK hA hP hD hS hE hQ hret hthr ls hl => ?_)
  have hl : lv_has ls 1 [(0, .int a0)] := hl
  unfold wp_R_needStateX at hw
  refine lv_iload_n hx hb d_R_needState_0 rfl (lv_at hl 0 rfl) ?_
  refine lv_if_ne (tgt := 14) hx hb d_R_needState_1 (by decide) (fun c1 => ?_) (fun c1 => ?_)
  · have hw := hw.1 c1
    exact hret () _ _ _ _ _ _ hw hP hD hS (Nat.le_of_ble_eq_true rfl) (Nat.le_of_ble_eq_true rfl) d_R_needState_14
  · have hw := hw.2 c1
    rw [hQ]
    exact vx_throwS (text := "not in this state") (names := ["java/lang/RuntimeException", "java/lang/Exception"]) hx hb hl9 hown (by decide) (by decide) (hts _ k_437) (hts _ k_38) (hE.2.2.1 (192, "not in this state") (by decide)) (vx_hat (fun w hw => hts w (at_190_194 w hw)) at_190_194_b (vx_c (va_Nw.use rfl (hE.2.2.2.1 _ (by decide))) (vx_c (va_Nw.use rfl (hE.2.2.2.2 _ (by decide))) (vx_c (va_Nw.use rfl (hE.2.2.2.2 _ (by decide))) (vx_c (va_Nw.use rfl (hE.2.2.2.2 _ (by decide))) vx_n))))) at_190_194_g hE.1 hE.2.1 hS (hl.1.trans hml.symm) d_R_needState_4 d_R_needState_7 d_R_needState_8 d_R_needState_10 d_R_needState_13 (fun x hx => (hex x hx).elim) (Nat.le_of_ble_eq_true rfl) (Nat.le_of_ble_eq_true rfl) (Nat.le_of_ble_eq_true rfl) (Nat.le_of_ble_eq_true rfl) hlocks (x_thrX (u := ()) hP hD hS hw) hS.2.2 (Nat.le_of_ble_eq_true rfl) (Nat.le_of_ble_eq_true rfl)

def wp_R_needRoom (a0 : Int32) (post : Unit → Prop) : Prop := (¬ a0 = 0 → (post ())) ∧ (a0 = 0 → (False))
set_option maxHeartbeats 4000000 in
set_option maxRecDepth 100000 in
theorem c_R_needRoom (l : Launch) (dC : Nat → ClassId) (dI : Nat → Nat → Nat) (cI cZ cL : ClassId)  (sz : Nat) (a0 : Int32) (post : Unit → Prop) (hw : wp_R_needRoom a0 post) : Met l y_R_needRoom w_R_needRoom ({ frames := 0, cells := 0, slots := 0, locals := 0 } : Room) (va_Pc [.int a0] (xP (dC, dI) vwCl [(cI, .int), (cZ, .boolean), (cL, .long)] ([] : va_W) sz)) (va_Qv post (xB (dC, dI) vwCl [(cI, .int), (cZ, .boolean), (cL, .long)] (va_A ([] : va_W) sz) (fun _ => ([] : va_W))) (va_A ([] : va_W) sz)) 0 0 (va_A ([] : va_W) sz) := by
  refine x_ofV (cc := b_R_needRoom) (maxL := 1) (by decide) rfl (Nat.le_of_ble_eq_true rfl) (fun p e s m below meth c A Q hx hb hml hts hown hin hK hA hP hD hS hret ls hl => ?_)
  have hl : lv_has ls 1 [(0, .int a0)] := hl
  unfold wp_R_needRoom at hw
  refine lv_iload_n hx hb d_R_needRoom_0 rfl (lv_at hl 0 rfl) ?_
  refine lv_if_ne (tgt := 14) hx hb d_R_needRoom_1 (by decide) (fun c1 => ?_) (fun c1 => ?_)
  · have hw := hw.1 c1
    exact hret () _ _ _ _ _ _ hw hP hD hS (Nat.le_of_ble_eq_true rfl) (Nat.le_of_ble_eq_true rfl) d_R_needRoom_14
  · have hw := hw.2 c1
    exact hw.elim

def wp_R_needRoomX (a0 : Int32) (post : Unit → Prop) (postX : String → Unit → Prop) : Prop := (¬ a0 = 0 → (post ())) ∧ (a0 = 0 → (postX "java/lang/UnsupportedOperationException" ()))
set_option maxHeartbeats 4000000 in
set_option maxRecDepth 100000 in
theorem c_R_needRoomX (l : Launch) (hl9 : l.stackTraces = false) (sa : Nat → Nat) (dC : Nat → ClassId) (dI : Nat → Nat → Nat) (cI cZ cL : ClassId)  (sz : Nat) (a0 : Int32) (post : Unit → Prop) (postX : String → Unit → Prop) (hw : wp_R_needRoomX a0 post postX) : vx_Met l y_R_needRoom w_R_needRoom ({ frames := 6, cells := 1, slots := 6, locals := 90 } : Room) (va_Pc [.int a0] (fun U => xP (dC, dI) vwCl [(cI, .int), (cZ, .boolean), (cL, .long)] ([] : va_W) sz U ∧ xE "ReleaseRows" xTx sa (va_A ([] : va_W) sz) U.heap U)) (va_Qv post (xB (dC, dI) vwCl [(cI, .int), (cZ, .boolean), (cL, .long)] (va_A ([] : va_W) sz) (fun _ => ([] : va_W))) (va_A ([] : va_W) sz)) (vx_X (fun _ => True) (xBX (dC, dI) vwCl (va_A ([] : va_W) sz) postX (fun _ => ([] : va_W))) (va_A ([] : va_W) sz)) 1 6 (va_A ([] : va_W) sz) := by
  refine x_ofXV (cc := b_R_needRoom) (maxL := 1) (by decide) rfl (Nat.le_of_ble_eq_true rfl) (fun p e s m below meth c A Q hx hb hml hts hown hlocks hex hK hA hP hD hS hE hQ hret hthr ls hl => ?_)
  have hl : lv_has ls 1 [(0, .int a0)] := hl
  unfold wp_R_needRoomX at hw
  refine lv_iload_n hx hb d_R_needRoom_0 rfl (lv_at hl 0 rfl) ?_
  refine lv_if_ne (tgt := 14) hx hb d_R_needRoom_1 (by decide) (fun c1 => ?_) (fun c1 => ?_)
  · have hw := hw.1 c1
    exact hret () _ _ _ _ _ _ hw hP hD hS (Nat.le_of_ble_eq_true rfl) (Nat.le_of_ble_eq_true rfl) d_R_needRoom_14
  · have hw := hw.2 c1
    rw [hQ]
    exact vx_throwS (text := "no room") (names := ["java/lang/RuntimeException", "java/lang/Exception"]) hx hb hl9 hown (by decide) (by decide) (hts _ k_261) (hts _ k_35) (hE.2.2.1 (197, "no room") (by decide)) (vx_hat (fun w hw => hts w (at_195_199 w hw)) at_195_199_b (vx_c (va_Nw.use rfl (hE.2.2.2.1 _ (by decide))) (vx_c (va_Nw.use rfl (hE.2.2.2.2 _ (by decide))) (vx_c (va_Nw.use rfl (hE.2.2.2.2 _ (by decide))) (vx_c (va_Nw.use rfl (hE.2.2.2.2 _ (by decide))) vx_n))))) at_195_199_g hE.1 hE.2.1 hS (hl.1.trans hml.symm) d_R_needRoom_4 d_R_needRoom_7 d_R_needRoom_8 d_R_needRoom_10 d_R_needRoom_13 (fun x hx => (hex x hx).elim) (Nat.le_of_ble_eq_true rfl) (Nat.le_of_ble_eq_true rfl) (Nat.le_of_ble_eq_true rfl) (Nat.le_of_ble_eq_true rfl) hlocks (x_thrX (u := ()) hP hD hS hw) hS.2.2 (Nat.le_of_ble_eq_true rfl) (Nat.le_of_ble_eq_true rfl)

theorem g_needKnown {a : Int32} (h : ¬ a = 0) : wp_R_needKnown a (fun _ => True) := ⟨fun _ => trivial, fun e => h e⟩
theorem g_needState {a : Int32} (h : ¬ a = 0) : wp_R_needState a (fun _ => True) := ⟨fun _ => trivial, fun e => h e⟩
theorem g_needRoom {a : Int32} (h : ¬ a = 0) : wp_R_needRoom a (fun _ => True) := ⟨fun _ => trivial, fun e => h e⟩
theorem g_needRange {a b c : Int32} (h : ¬ a < b ∧ a ≤ c) : wp_R_needRange a b c (fun _ => True) := ⟨fun e => absurd e h.1, fun _ => ⟨fun _ => trivial, fun e => absurd h.2 e⟩⟩
theorem g_needKnownX {a : Int32} (h : ¬ ¬ a = 0) : wp_R_needKnownX a (fun _ => False) (fun E _ => E = "java/lang/IllegalArgumentException") := ⟨fun e => absurd e h, fun _ => rfl⟩
theorem g_needStateX {a : Int32} (h : ¬ ¬ a = 0) : wp_R_needStateX a (fun _ => False) (fun E _ => E = "java/lang/IllegalStateException") := ⟨fun e => absurd e h, fun _ => rfl⟩
theorem g_needRoomX {a : Int32} (h : ¬ ¬ a = 0) : wp_R_needRoomX a (fun _ => False) (fun E _ => E = "java/lang/UnsupportedOperationException") := ⟨fun e => absurd e h, fun _ => rfl⟩
theorem g_needRangeX {a b c : Int32} (h : ¬ (¬ a < b ∧ a ≤ c)) : wp_R_needRangeX a b c (fun _ => False) (fun E _ => E = "java/lang/IndexOutOfBoundsException") := ⟨fun _ => rfl, fun e => ⟨fun e2 => absurd ⟨e, e2⟩ h, fun _ => rfl⟩⟩
