/-! the reference's settling is the class's -/
section IDLE
variable {xM : St} {post : Int32 → St → Prop} {rec4 : St → Int32 → Int32 → Prop} {xR xU xI xW y : St} {n ni w : Nat} {v1 v2 : Int32}
theorem m_idle12 (h : Rel xR xU xI xW y) (hn : n ≤ 24) (en : xU.2 10 = nI n) (hN : ∀ v, v < n → gN xR xU v) (hk : ∃ k9 : Nat, wl_M_settle_39 xM post rec4 k9 y v1 v2) : ∀ (k i : Nat), i + k = n → wl_M_settle_12 xM post rec4 (k + 1) y v1 v2 (nI i) := by
  intro k
  induction k with
  | zero =>
    intro i hik
    refine ⟨fun _ => hk, fun c => ?_⟩
    rw [r_U10 h, en, p_le (by omega) (by omega)] at c
    omega
  | succ k ih =>
    intro i hik
    refine ⟨fun c => ?_, fun _ => ⟨1, ?_⟩⟩
    · rw [r_U10 h, en, p_le (by omega) (by omega)] at c
      omega
    · obtain ⟨a, b, c⟩ := hN i (by omega)
      refine m_goesOn h (by omega) (fun q1 q2 => absurd ⟨q1, q2⟩ a) (fun q1 q2 q3 => absurd ⟨q1, q2, q3⟩ b) (fun q1 q2 => absurd ⟨q1, q2⟩ c) (fun _ _ _ => ⟨fun _ => ?_, fun q => absurd rfl q⟩)
      intro v hv
      rw [hv, p_s]
      exact ih (i + 1) (by omega)
theorem m_idle39 (h : Rel xR xU xI xW y) (hn : n ≤ 24) (en : xU.2 10 = nI n) (hw : iW w xW) (hlw : w ≤ 30) (hS : w = 0 ∨ fNear xU n = -1) (hk : ∃ k9 : Nat, wl_M_settle_53 xM post rec4 k9 y v1 v2 0) : wl_M_settle_39 xM post rec4 1 y v1 v2 := by
  refine m_serves h en hn hw hlw (fun _ => ⟨fun _ => hk, fun q => absurd rfl q⟩) (fun v hv c => ?_)
  rcases hS with q | q
  · omega
  · exact absurd q c
theorem m_idle53 (h : Rel xR xU xI xW y) (hn : n ≤ 24) (en : xU.2 10 = nI n) (hI : iInc n xU) (hw : xW.2 1 = nI w) (hlw : w ≤ 30) (hli : ni ≤ 20) (eni : xI.2 9 = nI ni) (hr : iRows ni xI) (hs : ¬ xR.2 4 < 0) (hE : ∀ i, i < ni → ¬ fEnds xI xU xW n w i (xR.2 4)) (hk : rec4 y v1 v2) : ∀ (k i : Nat), i + k = ni → wl_M_settle_53 xM post rec4 (k + 1) y v1 v2 (nI i) := by
  intro k
  induction k with
  | zero =>
    intro i hik
    refine ⟨fun _ => hk, fun c => ?_⟩
    rw [r_I9 h, eni, p_le (by omega) (by omega)] at c
    omega
  | succ k ih =>
    intro i hik
    refine ⟨fun c => ?_, fun _ => ?_⟩
    · rw [r_I9 h, eni, p_le (by omega) (by omega)] at c
      omega
    · refine m_ends h en hn hI hw hlw (show i < ni by omega) hli hr hs (fun c => absurd c (hE i (by omega))) (fun _ => ⟨fun _ => ?_, fun q => absurd rfl q⟩)
      intro v hv
      rw [hv, p_s]
      exact ih (i + 1) (by omega)
end IDLE
theorem p_nneg {x : Int32} {b : Int} (h : inR x 0 b) : ¬ x < 0 := by
  intro c
  have z := Int32.lt_iff_toInt_lt.mp c
  have e : (0 : Int32).toInt = 0 := by decide
  have := h.1
  omega
theorem m_settle {xR xU xI xW xM : St} {n ni w : Nat} {post : Int32 → St → Prop} (h : Rel xR xU xI xW xM) (hI : Inv xR xU xI xW n ni w) (hp : ∀ z, Rel (fSet xR xU xI xW n ni w).2.1 (fSet xR xU xI xW n ni w).2.2.1 (fSet xR xU xI xW n ni w).2.2.2.1 (fSet xR xU xI xW n ni w).2.2.2.2 z → post (fSet xR xU xI xW n ni w).1 z) : wp_M_settle xM post := by
  obtain ⟨w', hI2, hS2, hR2⟩ := p_setS hI
  obtain ⟨⟨hn, en⟩, ⟨hni, eni⟩, ⟨hw, eW⟩, hsec, hspan, hU, hSt, hIn⟩ := hI
  obtain ⟨a1, a2, a3, a4, a5⟩ := p_units hn n 0 (xR, xU) (by omega) hsec.1 hU hSt (fun v hv => absurd hv (Nat.not_lt_zero v))
  have a1' : iUn n ((fUnits n (xR, xU)).1.2 4) (fUnits n (xR, xU)).2 := by
    show iUn n ((fF sU n 0 (xR, xU)).1.2 4) _
    rw [a4]; exact a1
  have hsec' : inR ((fUnits n (xR, xU)).1.2 4) 0 999999 := by
    show inR ((fF sU n 0 (xR, xU)).1.2 4) 0 999999
    rw [a4]; exact hsec
  have en' : (fUnits n (xR, xU)).2.2 10 = nI n := by
    show (fF sU n 0 (xR, xU)).2.2 10 = nI n
    rw [a5]; exact en
  obtain ⟨b1, b2, b3, b4⟩ := p_giveS (xR := (fUnits n (xR, xU)).1) hn hsec'.1 w ((fUnits n (xR, xU)).2, xI, xW) a1' a3 eW
  obtain ⟨c1, c2, c3, c4⟩ := p_giveW (n := n) (sec := (fUnits n (xR, xU)).1.2 4) w ((fUnits n (xR, xU)).2, xI, xW) eW
  have hIn' : iIn ni ((fUnits n (xR, xU)).1.2 4) (fGive n ((fUnits n (xR, xU)).1.2 4) w ((fUnits n (xR, xU)).2, xI, xW)).1.2.1 := by
    refine iIn.of (x := xI) ?_ b4
    show iIn ni ((fF sU n 0 (xR, xU)).1.2 4) xI
    rw [a4]; exact hIn
  refine ⟨3, fun q => absurd q (by decide), fun _ => ⟨n + 1, ?_⟩⟩
  refine m_p12 hn n 0 (xR, xU) xM 0 (by omega) h en (fun z v hz => ⟨w + 1, ?_⟩)
  refine m_p39 (xR := (fUnits n (xR, xU)).1) hn w ((fUnits n (xR, xU)).2, xI, xW) z v hw hz en' eW (fun z v hz => ⟨ni + 1, ?_⟩)
  refine m_p53 (xR := (fUnits n (xR, xU)).1) (n := n) (w := (fGive n ((fUnits n (xR, xU)).1.2 4) w ((fUnits n (xR, xU)).2, xI, xW)).2) hn (by omega) hni (by rw [c3]; exact en') b1.2.1 c1.1 (p_nneg hsec') ni 0 ((fGive n ((fUnits n (xR, xU)).1.2 4) w ((fUnits n (xR, xU)).2, xI, xW)).1.2.1, 0) z v (by omega) hz ((congrFun c4 9).trans eni) hIn'.2.1 (fun z v hz => ?_)
  have hz2 : Rel (fSet xR xU xI xW n ni w).2.1 (fSet xR xU xI xW n ni w).2.2.1 (fSet xR xU xI xW n ni w).2.2.2.1 (fSet xR xU xI xW n ni w).2.2.2.2 z := hz
  have hdone := hp z hz2
  refine ⟨fun _ => hdone, fun _ => ⟨n + 1, ?_⟩⟩
  obtain ⟨⟨-, en2⟩, ⟨-, eni2⟩, ⟨hw2, eW2⟩, hsec2, -, hU2, -, hIn2⟩ := hI2
  refine m_idle12 hz2 hn en2 hS2.1 ⟨1, ?_⟩ n 0 (by omega)
  refine m_idle39 hz2 hn en2 eW2 hw2 hS2.2.1 ⟨ni + 1, ?_⟩
  exact m_idle53 hz2 hn en2 hU2.2.1 eW2.1 hw2 hni eni2 hIn2.2.1 (p_nneg hsec2) hS2.2.2 ⟨fun _ => hdone, fun q => absurd rfl q⟩ ni 0 (by omega)
/-- a settled state stays as it is -/
theorem p_sRself {x : St} {k : Nat} : sR x k (x.1 k) = x := by
  refine Prod.ext (funext fun j => ?_) rfl
  show (bif Nat.beq j k then x.1 k else x.1 j) = x.1 j
  cases e : Nat.beq j k
  · rfl
  · rw [Nat.eq_of_beq_eq_true e]; rfl
theorem p_sUid {xR xU : St} {u : Nat} (h : gN xR xU u) : sU u (xR, xU) = (xR, xU) := by
  obtain ⟨a, b, c⟩ := h
  have e1 : fGo1 xU u (xR.2 4) = xU := if_neg a
  have e2 : fGo2 (xU, xR.1 3) u (xR.2 4) = (xU, xR.1 3) := if_neg b
  have e3 : fGo3 xU u (xR.2 4) = xU := if_neg c
  show (sR xR 3 (fGo2 (fGo1 xU u (xR.2 4), xR.1 3) u (xR.2 4)).2, fGo3 (fGo2 (fGo1 xU u (xR.2 4), xR.1 3) u (xR.2 4)).1 u (xR.2 4)) = (xR, xU)
  rw [e1, e2, e3, p_sRself]
theorem p_fFid {σ : Type} {step : Nat → σ → σ} {s : σ} : ∀ (k i : Nat), (∀ j, i ≤ j → j < i + k → step j s = s) → fF step k i s = s := by
  intro k
  induction k with
  | zero => intro i _; rfl
  | succ k ih =>
    intro i h
    show fF step k (i + 1) (step i s) = s
    rw [h i (Nat.le_refl i) (by omega)]
    exact ih (i + 1) (fun j h1 h2 => h j (by omega) (by omega))
theorem p_setId {xR xU xI xW : St} {n ni w : Nat} (h : Settled xR xU xI xW n ni w) : fSet xR xU xI xW n ni w = (0, (xR, xU, xI, xW)) := by
  obtain ⟨h1, h2, h3⟩ := h
  have e1 : fUnits n (xR, xU) = (xR, xU) := p_fFid n 0 (fun j _ hj => p_sUid (h1 j (by omega)))
  have e2 : fGive n (xR.2 4) w (xU, xI, xW) = ((xU, xI, xW), w) := by
    cases w with
    | zero => rfl
    | succ w =>
      rcases h2 with q | q
      · omega
      · unfold fGive
        exact if_pos q
  have e3 : fCloses xU xW n w ni (xR.2 4) (xI, 0) = (xI, 0) := p_fFid ni 0 (fun j _ hj => if_neg (h3 j (by omega)))
  unfold fSet
  rw [e1]
  show ((fCloses (fGive n (xR.2 4) w (xU, xI, xW)).1.1 (fGive n (xR.2 4) w (xU, xI, xW)).1.2.2 n (fGive n (xR.2 4) w (xU, xI, xW)).2 ni (xR.2 4) ((fGive n (xR.2 4) w (xU, xI, xW)).1.2.1, 0)).2, (xR, (fGive n (xR.2 4) w (xU, xI, xW)).1.1, (fCloses (fGive n (xR.2 4) w (xU, xI, xW)).1.1 (fGive n (xR.2 4) w (xU, xI, xW)).1.2.2 n (fGive n (xR.2 4) w (xU, xI, xW)).2 ni (xR.2 4) ((fGive n (xR.2 4) w (xU, xI, xW)).1.2.1, 0)).1, (fGive n (xR.2 4) w (xU, xI, xW)).1.2.2)) = _
  rw [e2]
  show ((fCloses xU xW n w ni (xR.2 4) (xI, 0)).2, (xR, xU, (fCloses xU xW n w ni (xR.2 4) (xI, 0)).1, xW)) = _
  rw [e3]
