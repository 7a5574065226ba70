/-! pure rows: the class's settling as a function -/
theorem p_ref2 {u : Nat} : ∀ (k i : Nat) (s : St × (Nat → Int32)), (fF (fRefS u) k i s).1.2 = s.1.2 := by
  intro k
  induction k with
  | zero => intro i s; rfl
  | succ k ih => intro i s; exact ih (i + 1) (fRefS u i s)
theorem p_go1_2 {x : St} {u : Nat} {sec : Int32} : (fGo1 x u sec).2 = x.2 := by
  unfold fGo1
  split <;> rfl
theorem p_go2_2 {s : St × (Nat → Int32)} {u : Nat} {sec : Int32} : (fGo2 s u sec).1.2 = s.1.2 := by
  unfold fGo2
  by_cases c : s.1.1 5 u = 4 ∧ ¬ sec < fWE s.1 u ∧ fCan s.1 s.2 u
  · rw [if_pos c]; exact p_ref2 (u := u) 6 0 s
  · rw [if_neg c]
theorem p_go3_2 {x : St} {u : Nat} {sec : Int32} : (fGo3 x u sec).2 = x.2 := by
  unfold fGo3
  split <;> rfl
theorem p_go_2 {s : St × (Nat → Int32)} {u : Nat} {sec : Int32} : (fGo s u sec).1.2 = s.1.2 := by
  show (fGo3 _ u sec).2 = _
  rw [p_go3_2, p_go2_2]
  exact p_go1_2
noncomputable def sU (u : Nat) (s : St × St) : St × St := (sR s.1 3 (fGo (s.2, s.1.1 3) u (s.1.2 4)).2, (fGo (s.2, s.1.1 3) u (s.1.2 4)).1)
noncomputable def fUnits (n : Nat) (s : St × St) : St × St := fF sU n 0 s
theorem p_sU2 {u : Nat} {s : St × St} : (sU u s).2.2 = s.2.2 := p_go_2
def fBring (s : St × St × St) (b : Int32) (sec : Int32) (w : Nat) : St × St × St := (fGoTo s.1 b.toNatClampNeg (s.2.2.1 0 0) sec, sA s.2.1 2 (s.2.2.1 0 0).toNatClampNeg 1, fTake s.2.2 w)
def fGive (n : Nat) (sec : Int32) : Nat → St × St × St → (St × St × St) × Nat
  | 0, s => (s, 0)
  | w + 1, s => if fNear s.1 n = -1 then (s, w + 1) else fGive n sec w (fBring s (fNear s.1 n) sec w)
def iW (w : Nat) (x : St) : Prop := x.2 1 = nI w ∧ ∀ k, k < w → ∃ j, j < 20 ∧ x.1 0 k = nI j
theorem p_iWtake {w : Nat} {x : St} (h : iW (w + 1) x) : iW w (fTake x w) := by
  refine ⟨rfl, fun k hk => ?_⟩
  obtain ⟨j, hj, e⟩ := h.2 (1 + k) (by omega)
  refine ⟨j, hj, ?_⟩
  show va_cpy (x.1 0) (x.1 0) 1 0 w k = nI j
  rw [pk_cpy_in (by omega) (by omega)]
  exact e
theorem p_give {xR xU xI xW : St} {post : St × St × St → Prop} {n : Nat} (hl : n ≤ 24) : ∀ (w i : Nat) (s : St × St × St), i + w ≤ 30 → s.1.2 10 = nI n → iW w s.2.2 → post (fGive n (xR.2 4) w s).1 → wl_R_giveUnitsToCalls_2 xR xU xI xW post (w + 1) s.1 s.2.1 s.2.2 (nI i) := by
  intro w
  induction w with
  | zero =>
    intro i s hi hn hW hp
    refine ⟨fun _ => hp, fun _ => ⟨fun _ => hp, fun c => ?_⟩⟩
    rw [hW.1] at c
    exact absurd (by decide) c
  | succ w ih =>
    intro i s hi hn hW hp
    refine ⟨fun c => ?_, fun _ => ⟨fun c => ?_, fun _ => p_nearest hn hl ⟨fun c => ?_, fun c => ?_⟩⟩⟩
    · rw [show (30 : Int32) = nI 30 from rfl, p_le (by omega) (by omega)] at c
      omega
    · rw [hW.1] at c
      exact absurd c (nI_nle (by omega) (by omega))
    · rcases p_near_in (x := s.1) (n := n) with q | ⟨b, hb, -, q⟩
      · exact absurd q c
      · refine p_takeFirst hW.1 (by omega) ?_
        obtain ⟨j, hj, e⟩ := hW.2 0 (by omega)
        unfold wp_R_bring
        rw [q]
        refine p_goTo (by omega) ?_
        rw [p_b1, e]
        refine ⟨p_in hj (by omega), ?_⟩
        intro v hv
        rw [hv, p_s]
        unfold fGive at hp
        rw [if_neg c] at hp
        have e2 : fBring s (fNear s.1 n) (xR.2 4) w = (fGoTo s.1 b (nI j) (xR.2 4), sA s.2.1 2 (nI j).toNatClampNeg 1, fTake s.2.2 w) := by
          unfold fBring
          rw [q, p_cl (by omega), e]
        rw [e2] at hp
        exact ih (i + 1) (fGoTo s.1 b (nI j) (xR.2 4), sA s.2.1 2 (nI j).toNatClampNeg 1, fTake s.2.2 w) (by omega) hn (p_iWtake hW) hp
    · unfold fGive at hp
      rw [if_pos c] at hp
      exact hp
noncomputable def fEnds (x xU xW : St) (n w i : Nat) (sec : Int32) : Prop := fMay x i sec ∧ fCnt (fun u => xU.1 6 u = nI i) n = 0 ∧ fCnt (fun k => xW.1 0 k = nI i) w = 0
noncomputable def sCl (xU xW : St) (n w : Nat) (sec : Int32) (i : Nat) (s : St × Int32) : St × Int32 := @ite _ (fEnds s.1 xU xW n w i sec) (Classical.propDecidable _) (fClose s.1 i sec, s.2 + 1) s
noncomputable def fCloses (xU xW : St) (n w ni : Nat) (sec : Int32) (s : St × Int32) : St × Int32 := fF (sCl xU xW n w sec) ni 0 s
theorem p_sCl2 {xU xW : St} {n w i : Nat} {sec : Int32} {s : St × Int32} : (sCl xU xW n w sec i s).1.2 = s.1.2 := by
  unfold sCl
  by_cases c : fEnds s.1 xU xW n w i sec
  · rw [if_pos c]; rfl
  · rw [if_neg c]
theorem p_closeInc {xR xU xI xW : St} {post : Int32 → St → Prop} {n ni w : Nat} (hl : n ≤ 24) (hli : ni ≤ 20) (hlw : w ≤ 30) (hn : xU.2 10 = nI n) (hi : xI.2 9 = nI ni) (hw : xW.2 1 = nI w) (h : post (fCloses xU xW n w ni (xR.2 4) (xI, 0)).2 (fCloses xU xW n w ni (xR.2 4) (xI, 0)).1) : wp_R_closeIncidents xR xU xI xW post := by
  refine ⟨ni + 1, ?_⟩
  refine p_loop (Wl := fun k s i => wl_R_closeIncidents_4 xR xU xI xW post k s.1 s.2 i) (N := ni) (step := sCl xU xW n w (xR.2 4)) (I := fun _ s => s.1.2 9 = nI ni) (post := fun s => post s.2 s.1) ?_ ?_ (fun s i _ q => by rw [p_sCl2]; exact q) ni 0 (xI, 0) (by omega) hi h
  · intro k s hs hp
    refine ⟨fun _ => hp, fun c => ?_⟩
    rw [hs, p_le (by omega) (by omega)] at c
    omega
  · intro k s i hii hs hw2
    refine ⟨fun c => ?_, fun _ => ?_⟩
    · rw [hs, p_le (by omega) (by omega)] at c
      omega
    · unfold sCl at hw2
      have no : ¬ fEnds s.1 xU xW n w i (xR.2 4) → wj_R_closeIncidents_67 xR xU xI xW post (wl_R_closeIncidents_4 xR xU xI xW post k) s.1 s.2 (nI i) := by
        intro q v hv
        rw [hv, p_s]
        rw [if_neg q] at hw2
        exact hw2
      refine p_mayClose (by omega) (fun c1 => ⟨fun q => absurd q (by decide), fun _ => p_countAt hn hl ⟨fun c2 => no (fun q => c2 q.2.1), fun c2 => p_countFor hw hlw ⟨fun c3 => no (fun q => c3 q.2.2), fun c3 => p_close (by omega) ?_⟩⟩⟩) (fun c1 => ⟨fun _ => no (fun q => c1 q.1), fun q => absurd rfl q⟩)
      intro v hv z hz
      rw [hv, hz, p_s]
      rw [if_pos ⟨c1, c2, c3⟩] at hw2
      exact hw2
theorem p_giveW {n : Nat} {sec : Int32} : ∀ (w : Nat) (s : St × St × St), iW w s.2.2 → iW (fGive n sec w s).2 (fGive n sec w s).1.2.2 ∧ (fGive n sec w s).2 ≤ w ∧ (fGive n sec w s).1.1.2 = s.1.2 ∧ (fGive n sec w s).1.2.1.2 = s.2.1.2 := by
  intro w
  induction w with
  | zero => intro s h; exact ⟨h, Nat.le_refl _, rfl, rfl⟩
  | succ w ih =>
    intro s h
    unfold fGive
    by_cases c : fNear s.1 n = -1
    · rw [if_pos c]; exact ⟨h, Nat.le_refl _, rfl, rfl⟩
    · rw [if_neg c]
      obtain ⟨a1, a2, a3, a4⟩ := ih (fBring s (fNear s.1 n) sec w) (p_iWtake h)
      exact ⟨a1, by omega, a3, a4⟩
noncomputable def fSet (xR xU xI xW : St) (n ni w : Nat) : Int32 × (St × St × St × St) :=
  ((fCloses (fGive n ((fUnits n (xR, xU)).1.2 4) w ((fUnits n (xR, xU)).2, xI, xW)).1.1 (fGive n ((fUnits n (xR, xU)).1.2 4) w ((fUnits n (xR, xU)).2, xI, xW)).1.2.2 n (fGive n ((fUnits n (xR, xU)).1.2 4) w ((fUnits n (xR, xU)).2, xI, xW)).2 ni ((fUnits n (xR, xU)).1.2 4) ((fGive n ((fUnits n (xR, xU)).1.2 4) w ((fUnits n (xR, xU)).2, xI, xW)).1.2.1, 0)).2,
   ((fUnits n (xR, xU)).1, (fGive n ((fUnits n (xR, xU)).1.2 4) w ((fUnits n (xR, xU)).2, xI, xW)).1.1, (fCloses (fGive n ((fUnits n (xR, xU)).1.2 4) w ((fUnits n (xR, xU)).2, xI, xW)).1.1 (fGive n ((fUnits n (xR, xU)).1.2 4) w ((fUnits n (xR, xU)).2, xI, xW)).1.2.2 n (fGive n ((fUnits n (xR, xU)).1.2 4) w ((fUnits n (xR, xU)).2, xI, xW)).2 ni ((fUnits n (xR, xU)).1.2 4) ((fGive n ((fUnits n (xR, xU)).1.2 4) w ((fUnits n (xR, xU)).2, xI, xW)).1.2.1, 0)).1, (fGive n ((fUnits n (xR, xU)).1.2 4) w ((fUnits n (xR, xU)).2, xI, xW)).1.2.2))
theorem p_settle {xR xU xI xW : St} {post : Int32 → (St × St × St × St) → Prop} {n ni w : Nat} (hl : n ≤ 24) (hli : ni ≤ 20) (hlw : w ≤ 30) (hn : xU.2 10 = nI n) (hi : xI.2 9 = nI ni) (hw : iW w xW) (h : post (fSet xR xU xI xW n ni w).1 (fSet xR xU xI xW n ni w).2) : wp_R_settle xR xU xI xW post := by
  refine ⟨n + 1, ?_⟩
  refine p_loop (Wl := fun k s i => wl_R_settle_2 xR xU xI xW post k s.1 s.2 xI xW i) (N := n) (step := sU) (I := fun _ s => s.2.2 10 = nI n) (post := fun s => s = fUnits n (xR, xU)) ?_ ?_ (fun s i _ q => by rw [p_sU2]; exact q) n 0 (xR, xU) (by omega) hn rfl
  · intro k s hs hp
    subst hp
    refine ⟨fun _ => ?_, fun c => ?_⟩
    · refine ⟨w + 1, ?_⟩
      refine p_give hl w 0 ((fUnits n (xR, xU)).2, xI, xW) (by omega) hs hw ?_
      obtain ⟨a1, a2, a3, a4⟩ := p_giveW (n := n) (sec := (fUnits n (xR, xU)).1.2 4) w ((fUnits n (xR, xU)).2, xI, xW) hw
      exact p_closeInc hl hli (by omega) (by rw [a3]; exact hs) (by rw [a4]; exact hi) a1.1 h
    · rw [hs, p_le (by omega) (by omega)] at c
      omega
  · intro k s i hii hs hw2
    refine ⟨fun c => ?_, fun _ => p_goOn (by omega) ?_⟩
    · rw [hs, p_le (by omega) (by omega)] at c
      omega
    · intro v hv
      rw [hv, p_s]
      exact hw2
