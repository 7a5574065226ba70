/-! one pass of the reference's settling is the class's settling -/
def iRows (ni : Nat) (x : St) : Prop := ∀ i, i < ni → ∃ r, r < 256 ∧ x.1 3 i = nI r
theorem m_ends {xR xU xI xW xM : St} (h : Rel xR xU xI xW xM) {n ni w i : Nat} {post : Int32 → Unit → Prop} (hn : xU.2 10 = nI n) (hl : n ≤ 24) (hI : iInc n xU) (hw : xW.2 1 = nI w) (hlw : w ≤ 30) (hi : i < ni) (hli : ni ≤ 20) (hr : iRows ni xI) (hs : ¬ xR.2 4 < 0)
    (h1 : fEnds xI xU xW n w i (xR.2 4) → post 1 ()) (h0 : ¬ fEnds xI xU xW n w i (xR.2 4) → post 0 ()) : wp_M_ends xM (nI i) post := by
  have hin := p_in (show i < 20 by omega) (by omega)
  obtain ⟨r, hr2, er⟩ := hr i hi
  unfold wp_M_ends wj_M_ends_83 wj_M_ends_79
  rw [p_cl (by omega), r_I1 h, r_I2 h, r_I4 h, r_I3 h, r_I5 h, r_R4 h, er, p_rows hr2]
  refine ⟨hin, fun c => h0 (fun q => q.1.1 c), fun c1 => ⟨hin, fun c => h0 (fun q => q.1.2.1 c), fun c2 => m_there h hn hl (by omega) hI ⟨fun c => h0 (fun q => c q.2.1), fun c3 => m_waitingFor h hw hlw ⟨fun c => h0 (fun q => c q.2.2), fun c4 => ⟨hin, fun c => h0 (fun q => c q.1.2.2.1), fun c5 => ⟨hin, fun c => h0 (fun q => c (by have z := q.1.2.2.2.1; rw [er] at z; exact z)), fun c6 => ⟨hin, fun c7 => h1 ⟨⟨c1, c2, c5, by rw [er]; exact c6, fun q => ?_⟩, c3, c4⟩, fun _ => ⟨hin, fun c8 => h0 (fun q => q.1.2.2.2.2 c8), fun c8 => h1 ⟨⟨c1, c2, c5, by rw [er]; exact c6, c8⟩, c3, c4⟩⟩⟩⟩⟩⟩⟩⟩⟩
  exact hs (Int32.lt_trans q c7)
theorem p_becIs {x : St} {u : Nat} {st sec : Int32} : (fBec x u st sec).1 5 u = st := by
  show upd (x.1 5) u st u = st
  exact pk_us
section PASS
variable {xM : St} {post : Int32 → St → Prop} {rec4 : St → Int32 → Int32 → Prop} {rec12 : St → Int32 → Int32 → Int32 → Prop} {xI xW : St} {v1 : Int32} {u : Nat}
theorem m_w3 {xR xU y : St} (h : Rel xR xU xI xW y) (hu : u < 24) (nA : ¬ (xU.1 5 u = 3 ∧ ¬ xR.2 4 < fWE xU u)) (nB : ¬ (xU.1 5 u = 4 ∧ ¬ xR.2 4 < fWE xU u ∧ fCan xU (xR.1 3) u)) (hk : ∀ z v, Rel xR (fGo3 xU u (xR.2 4)) xI xW z → rec12 z v1 v (nI (u + 1))) (k : Nat) (v2 : Int32) : wl_M_settle_20 xM post rec4 rec12 (k + 2) y v1 v2 (nI u) := by
  refine m_goesOn h hu (fun a b => absurd ⟨a, b⟩ nA) (fun a b c => absurd ⟨a, b, c⟩ nB) (fun a b z hz => ⟨fun q => absurd q (by decide), fun _ => ?_⟩) (fun _ _ nC => ⟨fun _ => ?_, fun q => absurd rfl q⟩)
  · have e : fGo3 xU u (xR.2 4) = fBec xU u 0 (xR.2 4) := if_pos ⟨a, b⟩
    have is0 : (fBec xU u 0 (xR.2 4)).1 5 u = 0 := p_becIs
    refine m_goesOn hz hu (fun a2 => absurd a2 (by rw [is0]; decide)) (fun a2 => absurd a2 (by rw [is0]; decide)) (fun a2 => absurd a2 (by rw [is0]; decide)) (fun _ _ _ => ⟨fun _ => ?_, fun q => absurd rfl q⟩)
    intro v hv
    rw [hv, p_s]
    exact hk z 1 (by rw [e]; exact hz)
  · intro v hv
    rw [hv, p_s]
    have e : fGo3 xU u (xR.2 4) = xU := if_neg nC
    exact hk y v2 (by rw [e]; exact h)
theorem m_w2 {xR xU y : St} (h : Rel xR xU xI xW y) (hu : u < 24) (nA : ¬ (xU.1 5 u = 3 ∧ ¬ xR.2 4 < fWE xU u)) (hk : ∀ z v, Rel (sR xR 3 (fGo2 (xU, xR.1 3) u (xR.2 4)).2) (fGo3 (fGo2 (xU, xR.1 3) u (xR.2 4)).1 u (xR.2 4)) xI xW z → rec12 z v1 v (nI (u + 1))) (k : Nat) (v2 : Int32) : wl_M_settle_20 xM post rec4 rec12 (k + 3) y v1 v2 (nI u) := by
  by_cases cB : xU.1 5 u = 4 ∧ ¬ xR.2 4 < fWE xU u ∧ fCan xU (xR.1 3) u
  · refine m_goesOn h hu (fun a b => absurd ⟨a, b⟩ nA) (fun a b c z hz => ⟨fun q => absurd q (by decide), fun _ => ?_⟩) (fun a => absurd a (by rw [cB.1]; decide)) (fun _ nB => absurd cB nB)
    have e : fGo2 (xU, xR.1 3) u (xR.2 4) = (fBec (sA (fRef u (xU, xR.1 3)).1 4 u 0) u 5 (xR.2 4), (fRef u (xU, xR.1 3)).2) := if_pos cB
    have is5 : (fBec (sA (fRef u (xU, xR.1 3)).1 4 u 0) u 5 (xR.2 4)).1 5 u = 5 := p_becIs
    refine m_w3 (xR := sR xR 3 (fRef u (xU, xR.1 3)).2) hz hu (fun q => absurd q.1 (by rw [is5]; decide)) (fun q => absurd q.1 (by rw [is5]; decide)) (fun z2 v hz2 => hk z2 v ?_) k 1
    rw [e]
    exact hz2
  · have e : fGo2 (xU, xR.1 3) u (xR.2 4) = (xU, xR.1 3) := if_neg cB
    rw [e] at hk
    exact m_w3 h hu nA cB (fun z v hz => hk z v hz) (k + 1) v2
theorem m_w1 {xR xU y : St} (h : Rel xR xU xI xW y) (hu : u < 24) (hk : ∀ z v, Rel (sU u (xR, xU)).1 (sU u (xR, xU)).2 xI xW z → rec12 z v1 v (nI (u + 1))) (v2 : Int32) : ∃ k9 : Nat, wl_M_settle_20 xM post rec4 rec12 k9 y v1 v2 (nI u) := by
  refine ⟨4, ?_⟩
  by_cases cA : xU.1 5 u = 3 ∧ ¬ xR.2 4 < fWE xU u
  · have e : fGo1 xU u (xR.2 4) = fBec xU u 4 (xR.2 4) := if_pos cA
    refine m_goesOn h hu (fun a b z hz => ⟨fun q => absurd q (by decide), fun _ => ?_⟩) (fun a => absurd a (by rw [cA.1]; decide)) (fun a => absurd a (by rw [cA.1]; decide)) (fun nA => absurd cA nA)
    have is4 : (fBec xU u 4 (xR.2 4)).1 5 u = 4 := p_becIs
    refine m_w2 hz hu (fun q => absurd q.1 (by rw [is4]; decide)) (fun z2 v hz2 => hk z2 v ?_) 0 1
    show Rel (sR xR 3 (fGo2 (fGo1 xU u (xR.2 4), xR.1 3) u (xR.2 4)).2) (fGo3 (fGo2 (fGo1 xU u (xR.2 4), xR.1 3) u (xR.2 4)).1 u (xR.2 4)) xI xW z2
    rw [e]
    exact hz2
  · have e : fGo1 xU u (xR.2 4) = xU := if_neg cA
    refine m_w2 h hu cA (fun z2 v hz2 => hk z2 v ?_) 1 v2
    show Rel (sR xR 3 (fGo2 (fGo1 xU u (xR.2 4), xR.1 3) u (xR.2 4)).2) (fGo3 (fGo2 (fGo1 xU u (xR.2 4), xR.1 3) u (xR.2 4)).1 u (xR.2 4)) xI xW z2
    rw [e]
    exact hz2
theorem m_p12 {n : Nat} (hl : n ≤ 24) : ∀ (k i : Nat) (s : St × St) (y : St) (v2 : Int32), i + k = n → Rel s.1 s.2 xI xW y → s.2.2 10 = nI n → (∀ z v, Rel (fF sU k i s).1 (fF sU k i s).2 xI xW z → ∃ k9 : Nat, wl_M_settle_39 xM post rec4 k9 z v1 v) → wl_M_settle_12 xM post rec4 (k + 1) y v1 v2 (nI i) := by
  intro k
  induction k with
  | zero =>
    intro i s y v2 hik h hn hk
    refine ⟨fun _ => hk y v2 h, fun c => ?_⟩
    rw [r_U10 h, hn, p_le (by omega) (by omega)] at c
    omega
  | succ k ih =>
    intro i s y v2 hik h hn hk
    refine ⟨fun c => ?_, fun _ => ?_⟩
    · rw [r_U10 h, hn, p_le (by omega) (by omega)] at c
      omega
    · exact m_w1 h (by omega) (fun z v hz => ih (i + 1) (sU i s) z v (by omega) hz (by rw [p_sU2]; exact hn) hk) v2
theorem m_p39 {xR : St} {n : Nat} (hl : n ≤ 24) : ∀ (w : Nat) (s : St × St × St) (y : St) (v2 : Int32), w ≤ 30 → Rel xR s.1 s.2.1 s.2.2 y → s.1.2 10 = nI n → iW w s.2.2 → (∀ z v, Rel xR (fGive n (xR.2 4) w s).1.1 (fGive n (xR.2 4) w s).1.2.1 (fGive n (xR.2 4) w s).1.2.2 z → ∃ k9 : Nat, wl_M_settle_53 xM post rec4 k9 z v1 v 0) → wl_M_settle_39 xM post rec4 (w + 1) y v1 v2 := by
  intro w
  induction w with
  | zero =>
    intro s y v2 hlw h hn hW hk
    refine m_serves h hn hl hW hlw (fun _ => ⟨fun _ => hk y v2 h, fun q => absurd rfl q⟩) (fun v hv => absurd hv (by omega))
  | succ w ih =>
    intro s y v2 hlw h hn hW hk
    refine m_serves h hn hl hW hlw (fun c => ⟨fun _ => ?_, fun q => absurd rfl q⟩) (fun v hv c z hz => ⟨fun q => absurd q (by decide), fun _ => ?_⟩)
    · rcases c with c | c
      · omega
      · unfold fGive at hk
        rw [if_pos c] at hk
        exact hk y v2 h
    · have e : v = w := by omega
      subst e
      unfold fGive at hk
      rw [if_neg c] at hk
      exact ih (fBring s (fNear s.1 n) (xR.2 4) v) z 1 (by omega) hz hn (p_iWtake hW) hk
theorem p_clRows {xU xW : St} {n w i ni : Nat} {sec : Int32} {s : St × Int32} (h : iRows ni s.1) : iRows ni (sCl xU xW n w sec i s).1 := by
  unfold sCl
  by_cases c : fEnds s.1 xU xW n w i sec
  · rw [if_pos c]; exact h
  · rw [if_neg c]; exact h
theorem m_p53 {xR xU : St} {n w ni : Nat} (hl : n ≤ 24) (hlw : w ≤ 30) (hli : ni ≤ 20) (hn : xU.2 10 = nI n) (hI : iInc n xU) (hw : xW.2 1 = nI w) (hs : ¬ xR.2 4 < 0) : ∀ (k i : Nat) (s : St × Int32) (y : St) (v2 : Int32), i + k = ni → Rel xR xU s.1 xW y → s.1.2 9 = nI ni → iRows ni s.1 → (∀ z v, Rel xR xU (fF (sCl xU xW n w (xR.2 4)) k i s).1 xW z → rec4 z (fF (sCl xU xW n w (xR.2 4)) k i s).2 v) → wl_M_settle_53 xM post rec4 (k + 1) y s.2 v2 (nI i) := by
  intro k
  induction k with
  | zero =>
    intro i s y v2 hik h hni hr hk
    refine ⟨fun _ => hk y v2 h, fun c => ?_⟩
    rw [r_I9 h, hni, p_le (by omega) (by omega)] at c
    omega
  | succ k ih =>
    intro i s y v2 hik h hni hr hk
    have hin := p_in (show i < 20 by omega) (by omega)
    refine ⟨fun c => ?_, fun _ => ?_⟩
    · rw [r_I9 h, hni, p_le (by omega) (by omega)] at c
      omega
    · refine m_ends h hn hl hI hw hlw (show i < ni by omega) hli hr hs (fun c => ⟨fun q => absurd q (by decide), fun _ => ⟨hin, hin, hin, hin, ?_⟩⟩) (fun c => ⟨fun _ => ?_, fun q => absurd rfl q⟩)
      · intro v hv z hz
        rw [hv, hz, p_s, p_cl (by omega), p_b0]
        have e : sCl xU xW n w (xR.2 4) i s = (fClose s.1 i (xR.2 4), s.2 + 1) := if_pos c
        have er : (sA y 17 i 0).1 23 i = s.1.1 7 i := by
          show y.1 23 i = s.1.1 7 i
          rw [r_I7 h]
        have es : (sA (sA y 17 i 0) 23 i ((sA y 17 i 0).1 23 i + 1)).2 1 = xR.2 4 := by
          show y.2 1 = xR.2 4
          exact r_R4 h
        rw [es, er]
        have h2 : Rel xR xU (fClose s.1 i (xR.2 4)) xW (sA (sA (sA y 17 i 0) 23 i (s.1.1 7 i + 1)) 24 i (xR.2 4)) := s_I8 (s_I7 (s_I1 h i 0) i (s.1.1 7 i + 1)) i (xR.2 4)
        have e2 : fF (sCl xU xW n w (xR.2 4)) (k + 1) i s = fF (sCl xU xW n w (xR.2 4)) k (i + 1) (fClose s.1 i (xR.2 4), s.2 + 1) := by
          show fF (sCl xU xW n w (xR.2 4)) k (i + 1) (sCl xU xW n w (xR.2 4) i s) = _
          rw [e]
        rw [e2] at hk
        exact ih (i + 1) (fClose s.1 i (xR.2 4), s.2 + 1) _ 1 (by omega) h2 hni hr hk
      · intro v hv
        rw [hv, p_s]
        have e : sCl xU xW n w (xR.2 4) i s = s := if_neg c
        have e2 : fF (sCl xU xW n w (xR.2 4)) (k + 1) i s = fF (sCl xU xW n w (xR.2 4)) k (i + 1) s := by
          show fF (sCl xU xW n w (xR.2 4)) k (i + 1) (sCl xU xW n w (xR.2 4) i s) = _
          rw [e]
        rw [e2] at hk
        exact ih (i + 1) s y v2 (by omega) h hni hr hk
end PASS
