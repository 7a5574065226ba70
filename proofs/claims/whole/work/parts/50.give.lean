/-! giving units to calls keeps the units settled and ends with no call or no ready unit; closing; the whole settling -/
theorem p_goTo_ne {x : St} {u v : Nat} {i sec : Int32} (h : v ≠ u) : eqU x (fGoTo x u i sec) v := by
  unfold fGoTo
  exact eqU.tr (eqU.tr (p_bec_ne h) (p_sA_ne h (by omega))) (p_sA_ne h (by omega))
theorem p_goToIs {x : St} {u : Nat} {i sec : Int32} : (fGoTo x u i sec).1 5 u = 1 := by
  show upd (x.1 5) u 1 u = 1
  exact pk_us
theorem p_gN1 {r x : St} {u : Nat} (e : x.1 5 u = 1) : gN r x u := by
  refine ⟨fun q => ?_, fun q => ?_, fun q => ?_⟩
  · have z := q.1; rw [e] at z; exact absurd z (by decide)
  · have z := q.1; rw [e] at z; exact absurd z (by decide)
  · have z := q.1; rw [e] at z; exact absurd z (by decide)
theorem p_goTo_i {n u : Nat} {sec i : Int32} {x : St} (h : iUn n sec x) (hu : u < n) (hs : 0 ≤ sec.toInt) : iUn n sec (fGoTo x u i sec) := by
  obtain ⟨h1, h2, h3, h4⟩ := h
  refine ⟨fun v hv => ?_, fun v hv => ?_, fun v hv1 hv2 => ?_, fun k hk => ?_⟩
  · obtain ⟨a1, a2, a3, a4⟩ := h1 v hv
    refine ⟨a1, a2, ?_⟩
    show 0 ≤ (upd (x.1 7) u sec v).toInt ∧ (upd (x.1 7) u sec v).toInt ≤ sec.toInt
    by_cases c : v = u
    · subst c; rw [pk_us]; exact ⟨hs, Int.le_refl _⟩
    · rw [pk_un c]; exact ⟨a3, a4⟩
  · show ¬ upd (x.1 5) u 1 v = 1 → upd (upd (x.1 6) u (-1)) u i v = -1
    by_cases c : v = u
    · subst c; rw [pk_us]; exact fun q => absurd rfl q
    · rw [pk_un c, pk_un c, pk_un c]; exact h2 v hv
  · show upd (x.1 5) u 1 v = 0
    rw [pk_un (by omega)]; exact h3 v hv1 hv2
  · exact h4 k hk
theorem p_giveS {xR : St} {n : Nat} (hn : n ≤ 24) (hs : 0 ≤ (xR.2 4).toInt) : ∀ (w : Nat) (s : St × St × St), iUn n (xR.2 4) s.1 → (∀ v, v < n → gN xR s.1 v) → iW w s.2.2 → iUn n (xR.2 4) (fGive n (xR.2 4) w s).1.1 ∧ (∀ v, v < n → gN xR (fGive n (xR.2 4) w s).1.1 v) ∧ ((fGive n (xR.2 4) w s).2 = 0 ∨ fNear (fGive n (xR.2 4) w s).1.1 n = -1) ∧ ∀ k, k ≠ 2 → (fGive n (xR.2 4) w s).1.2.1.1 k = s.2.1.1 k := by
  intro w
  induction w with
  | zero => intro s h1 h2 h3; exact ⟨h1, h2, Or.inl rfl, fun _ _ => rfl⟩
  | succ w ih =>
    intro s h1 h2 h3
    unfold fGive
    by_cases c : fNear s.1 n = -1
    · rw [if_pos c]; exact ⟨h1, h2, Or.inr c, fun _ _ => rfl⟩
    · rw [if_neg c]
      rcases p_near_in (x := s.1) (n := n) with q | ⟨b, hb, -, q⟩
      · exact absurd q c
      · have eb : (fNear s.1 n).toNatClampNeg = b := by rw [q, p_cl (by omega)]
        have a1 : iUn n (xR.2 4) (fBring s (fNear s.1 n) (xR.2 4) w).1 := by
          show iUn n (xR.2 4) (fGoTo s.1 (fNear s.1 n).toNatClampNeg (s.2.2.1 0 0) (xR.2 4))
          rw [eb]; exact p_goTo_i h1 hb hs
        have a2 : ∀ v, v < n → gN xR (fBring s (fNear s.1 n) (xR.2 4) w).1 v := by
          intro v hv
          show gN xR (fGoTo s.1 (fNear s.1 n).toNatClampNeg (s.2.2.1 0 0) (xR.2 4)) v
          rw [eb]
          by_cases c2 : v = b
          · subst c2; exact p_gN1 p_goToIs
          · exact (h2 v hv).keep (p_goTo_ne c2) leF.rf rfl
        obtain ⟨b1, b2, b3, b4⟩ := ih (fBring s (fNear s.1 n) (xR.2 4) w) a1 a2 (p_iWtake h3)
        refine ⟨b1, b2, b3, fun k hk => (b4 k hk).trans ?_⟩
        show (bif Nat.beq k 2 then _ else s.2.1.1 k) = s.2.1.1 k
        rw [show Nat.beq k 2 = false from by
          cases e : Nat.beq k 2
          · rfl
          · exact absurd (Nat.eq_of_beq_eq_true e) hk]
        rfl
/-- the incidents' part of the invariant -/
def iIn (ni : Nat) (sec : Int32) (x : St) : Prop := (∀ i, i < ni → (x.1 1 i = 0 ∨ x.1 1 i = 1) ∧ inR (x.1 5 i) (-1) 999999 ∧ -1 ≤ (x.1 8 i).toInt ∧ (x.1 8 i).toInt ≤ sec.toInt) ∧ iRows ni x ∧ (∀ i, ni ≤ i → i < 20 → x.1 1 i = 0) ∧ ∀ i j, i < j → j < ni → x.1 0 i = x.1 0 j → x.1 1 i = 0 ∧ (x.1 1 j = 0 → x.1 8 i ≤ x.1 8 j)
theorem iIn.of {ni : Nat} {sec : Int32} {x y : St} (h : iIn ni sec x) (e : ∀ k, k ≠ 2 → y.1 k = x.1 k) : iIn ni sec y := by
  obtain ⟨h1, h2, h3, h4⟩ := h
  refine ⟨fun i hi => ?_, fun i hi => ?_, fun i hi1 hi2 => ?_, fun i j hij hj => ?_⟩
  · rw [e 1 (by omega), e 5 (by omega), e 8 (by omega)]; exact h1 i hi
  · rw [e 3 (by omega)]; exact h2 i hi
  · rw [e 1 (by omega)]; exact h3 i hi1 hi2
  · rw [e 0 (by omega), e 1 (by omega), e 8 (by omega)]; exact h4 i j hij hj
theorem p_close_i {ni i : Nat} {sec : Int32} {x : St} (h : iIn ni sec x) (hi : i < ni) (ho : ¬ x.1 1 i = 0) (hs : 0 ≤ sec.toInt) : iIn ni sec (fClose x i sec) := by
  obtain ⟨h1, h2, h3, h4⟩ := h
  refine ⟨fun k hk => ?_, h2, fun k hk1 hk2 => ?_, fun k j hkj hj => ?_⟩
  · obtain ⟨a1, a2, a3⟩ := h1 k hk
    show (upd (x.1 1) i 0 k = 0 ∨ upd (x.1 1) i 0 k = 1) ∧ inR (x.1 5 k) (-1) 999999 ∧ -1 ≤ (upd (x.1 8) i sec k).toInt ∧ (upd (x.1 8) i sec k).toInt ≤ sec.toInt
    by_cases c : k = i
    · subst c; rw [pk_us, pk_us]; exact ⟨Or.inl rfl, a2, by omega, Int.le_refl _⟩
    · rw [pk_un c, pk_un c]; exact ⟨a1, a2, a3⟩
  · show upd (x.1 1) i 0 k = 0
    rw [pk_un (by omega)]; exact h3 k hk1 hk2
  · show x.1 0 k = x.1 0 j → upd (x.1 1) i 0 k = 0 ∧ (upd (x.1 1) i 0 j = 0 → upd (x.1 8) i sec k ≤ upd (x.1 8) i sec j)
    intro e
    obtain ⟨b1, b2⟩ := h4 k j hkj hj e
    have ck : k ≠ i := fun q => ho (by rw [← q]; exact b1)
    rw [pk_un ck, pk_un ck]
    refine ⟨b1, ?_⟩
    by_cases c : j = i
    · subst c
      rw [pk_us, pk_us]
      intro _
      rw [Int32.le_iff_toInt_le]
      exact (h1 k (by omega)).2.2.2
    · rw [pk_un c, pk_un c]; exact b2
theorem p_ends_ne {x xU xW : St} {n w i k : Nat} {sec : Int32} (h : k ≠ i) : fEnds (fClose x i sec) xU xW n w k sec → fEnds x xU xW n w k sec := by
  rintro ⟨⟨a1, a2, a3, a4, a5⟩, b, c⟩
  refine ⟨⟨?_, a2, a3, a4, a5⟩, b, c⟩
  have z : ¬ upd (x.1 1) i 0 k = 0 := a1
  rw [pk_un h] at z
  exact z
theorem p_ends_self {x xU xW : St} {n w i : Nat} {sec : Int32} : ¬ fEnds (fClose x i sec) xU xW n w i sec := by
  rintro ⟨⟨a1, -⟩, -⟩
  have z : ¬ upd (x.1 1) i 0 i = 0 := a1
  rw [pk_us] at z
  exact z rfl
theorem p_closesS {xU xW : St} {n w ni : Nat} {sec : Int32} (hs : 0 ≤ sec.toInt) : ∀ (k i : Nat) (s : St × Int32), i + k = ni → iIn ni sec s.1 → (∀ j, j < i → ¬ fEnds s.1 xU xW n w j sec) → iIn ni sec (fF (sCl xU xW n w sec) k i s).1 ∧ (∀ j, j < ni → ¬ fEnds (fF (sCl xU xW n w sec) k i s).1 xU xW n w j sec) ∧ (fF (sCl xU xW n w sec) k i s).1.2 = s.1.2 := by
  intro k
  induction k with
  | zero =>
    intro i s hik h1 h2
    have e : i = ni := by omega
    subst e
    exact ⟨h1, h2, rfl⟩
  | succ k ih =>
    intro i s hik h1 h2
    have e2 : fF (sCl xU xW n w sec) (k + 1) i s = fF (sCl xU xW n w sec) k (i + 1) (sCl xU xW n w sec i s) := rfl
    rw [e2]
    by_cases c : fEnds s.1 xU xW n w i sec
    · have e : sCl xU xW n w sec i s = (fClose s.1 i sec, s.2 + 1) := if_pos c
      rw [e]
      refine ih (i + 1) (fClose s.1 i sec, s.2 + 1) (by omega) (p_close_i h1 (by omega) c.1.1 hs) (fun j hj => ?_)
      by_cases cj : j = i
      · subst cj; exact p_ends_self
      · exact fun q => h2 j (by omega) (p_ends_ne cj q)
    · have e : sCl xU xW n w sec i s = s := if_neg c
      rw [e]
      refine ih (i + 1) s (by omega) h1 (fun j hj => ?_)
      by_cases cj : j = i
      · subst cj; exact c
      · exact h2 j (by omega)
def Settled (xR xU xI xW : St) (n ni w : Nat) : Prop := (∀ v, v < n → gN xR xU v) ∧ (w = 0 ∨ fNear xU n = -1) ∧ ∀ i, i < ni → ¬ fEnds xI xU xW n w i (xR.2 4)
/-- what holds of the class's cells at all times -/
def Inv (xR xU xI xW : St) (n ni w : Nat) : Prop := (n ≤ 24 ∧ xU.2 10 = nI n) ∧ (ni ≤ 20 ∧ xI.2 9 = nI ni) ∧ (w ≤ 30 ∧ iW w xW) ∧ inR (xR.2 4) 0 999999 ∧ inR (xR.2 5) 0 100000 ∧ iUn n (xR.2 4) xU ∧ iSt (xR.1 3) ∧ iIn ni (xR.2 4) xI
/-- behind the settling: the invariant, and nothing more can be so -/
theorem p_setS {xR xU xI xW : St} {n ni w : Nat} (h : Inv xR xU xI xW n ni w) : ∃ w', Inv (fSet xR xU xI xW n ni w).2.1 (fSet xR xU xI xW n ni w).2.2.1 (fSet xR xU xI xW n ni w).2.2.2.1 (fSet xR xU xI xW n ni w).2.2.2.2 n ni w' ∧ Settled (fSet xR xU xI xW n ni w).2.1 (fSet xR xU xI xW n ni w).2.2.1 (fSet xR xU xI xW n ni w).2.2.2.1 (fSet xR xU xI xW n ni w).2.2.2.2 n ni w' ∧ (fSet xR xU xI xW n ni w).2.1.2 = xR.2 := by
  obtain ⟨⟨hn, en⟩, ⟨hni, eni⟩, ⟨hw, eW⟩, hsec, hspan, hU, hSt, hIn⟩ := h
  obtain ⟨a1, a2, a3, a4, a5⟩ := p_units hn n 0 (xR, xU) (by omega) hsec.1 hU hSt (fun v hv => absurd hv (Nat.not_lt_zero v))
  have a1' : iUn n ((fUnits n (xR, xU)).1.2 4) (fUnits n (xR, xU)).2 := by
    show iUn n ((fF sU n 0 (xR, xU)).1.2 4) _
    rw [a4]; exact a1
  have hsec' : inR ((fUnits n (xR, xU)).1.2 4) 0 999999 := by
    show inR ((fF sU n 0 (xR, xU)).1.2 4) 0 999999
    rw [a4]; exact hsec
  obtain ⟨b1, b2, b3, b4⟩ := p_giveS (xR := (fUnits n (xR, xU)).1) hn hsec'.1 w ((fUnits n (xR, xU)).2, xI, xW) a1' a3 eW
  obtain ⟨c1, c2, c3, c4⟩ := p_giveW (n := n) (sec := (fUnits n (xR, xU)).1.2 4) w ((fUnits n (xR, xU)).2, xI, xW) eW
  have hIn' : iIn ni ((fUnits n (xR, xU)).1.2 4) (fGive n ((fUnits n (xR, xU)).1.2 4) w ((fUnits n (xR, xU)).2, xI, xW)).1.2.1 := by
    refine iIn.of (x := xI) ?_ b4
    show iIn ni ((fF sU n 0 (xR, xU)).1.2 4) xI
    rw [a4]; exact hIn
  obtain ⟨d1, d2, d3⟩ := p_closesS (xU := (fGive n ((fUnits n (xR, xU)).1.2 4) w ((fUnits n (xR, xU)).2, xI, xW)).1.1) (xW := (fGive n ((fUnits n (xR, xU)).1.2 4) w ((fUnits n (xR, xU)).2, xI, xW)).1.2.2) (n := n) (w := (fGive n ((fUnits n (xR, xU)).1.2 4) w ((fUnits n (xR, xU)).2, xI, xW)).2) hsec'.1 ni 0 ((fGive n ((fUnits n (xR, xU)).1.2 4) w ((fUnits n (xR, xU)).2, xI, xW)).1.2.1, 0) (by omega) hIn' (fun j hj => absurd hj (Nat.not_lt_zero j))
  refine ⟨(fGive n ((fUnits n (xR, xU)).1.2 4) w ((fUnits n (xR, xU)).2, xI, xW)).2, ⟨⟨hn, ?_⟩, ⟨hni, ?_⟩, ⟨by omega, c1⟩, hsec', ?_, b1, a2, d1⟩, ⟨b2, b3, d2⟩, a4⟩
  · show (fGive n ((fUnits n (xR, xU)).1.2 4) w ((fUnits n (xR, xU)).2, xI, xW)).1.1.2 10 = nI n
    rw [c3]
    show (fF sU n 0 (xR, xU)).2.2 10 = nI n
    rw [a5]; exact en
  · show (fCloses _ _ n _ ni _ _).1.2 9 = nI ni
    exact (congrFun d3 9).trans ((congrFun c4 9).trans eni)
  · show inR ((fF sU n 0 (xR, xU)).1.2 5) 0 100000
    rw [a4]; exact hspan
