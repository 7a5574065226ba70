/-! both ticks end in the same state -/
theorem p_c {s c : Int32} {d : Nat} (hs : inR s 0 999999) (hd : d ≤ 5000) (h : c.toInt = s.toInt + d) : c = s + nI d := Int32.toInt_inj.mp (by rw [p_t hs hd]; exact h)
theorem p_jump {xR xU xI xW : St} {n ni w m : Nat} {c e cl : Int32} (hI : Inv xR xU xI xW n ni w) (h : Settled xR xU xI xW n ni w) (hm : m ≤ 5000) (he : e.toInt = (xR.2 4).toInt + m) (h9 : e.toInt ≤ 999999) (hc : c = fNC (xR.2 4) xU xI n ni e) (h0 : 0 < m) :
    ∃ d, d + 1 ≤ m ∧ c.toInt = (xR.2 4).toInt + (d + 1 : Nat) ∧ fTk n ni m (cl, (xR, xU, xI, xW)) = fTk n ni (m - (d + 1)) (cl + (fSet (sF xR 4 c) xU xI xW n ni w).1, (fSet (sF xR 4 c) xU xI xW n ni w).2) := by
  have hlt : xR.2 4 < e := by rw [Int32.lt_iff_toInt_lt]; omega
  obtain ⟨a1, a2, a3, a4⟩ := p_nc (xU := xU) (xI := xI) (n := n) (ni := ni) hlt
  rw [← hc] at a1 a2 a3 a4
  have b1 := Int32.lt_iff_toInt_lt.mp a1
  have b2 := Int32.le_iff_toInt_le.mp a2
  obtain ⟨d, hd⟩ : ∃ d : Nat, c.toInt = (xR.2 4).toInt + (d + 1 : Nat) := ⟨(c.toInt - (xR.2 4).toInt - 1).toNat, by omega⟩
  have hdm : d + 1 ≤ m := by omega
  refine ⟨d, hdm, hd, ?_⟩
  have e1 : m = (d + 1) + (m - (d + 1)) := by omega
  have hw : wOf xW = w := p_wOf hI.2.2.1.2 hI.2.2.1.1
  have ec : c = xR.2 4 + nI (d + 1) := p_c hI.2.2.2.1 (by omega) hd
  have e2 : fTk n ni (d + 1) (cl, (xR, xU, xI, xW)) = (cl + (fSet (sF xR 4 c) xU xI xW n ni w).1, (fSet (sF xR 4 c) xU xI xW n ni w).2) := by
    rw [p_tkAdd d 1, p_idleTk hI h a3 a4 d (by omega) (by omega)]
    show (cl + (fStep n ni (sF xR 4 (xR.2 4 + nI d), xU, xI, xW)).1, (fStep n ni (sF xR 4 (xR.2 4 + nI d), xU, xI, xW)).2) = _
    have e3 : fStep n ni (sF xR 4 (xR.2 4 + nI d), xU, xI, xW) = fSet (sF xR 4 c) xU xI xW n ni w := by
      show fSet (sF (sF xR 4 (xR.2 4 + nI d)) 4 (xR.2 4 + nI d + 1)) xU xI xW n ni (wOf xW) = _
      rw [p_sFF, p_t1, hw, ← ec]
    rw [e3]
  rw [← e2, ← p_tkAdd, ← e1]
theorem p_tick {xR0 xU0 xI0 xW0 : St} {post : Int32 → S4 → Prop} {postX : String → S4 → Prop} {n ni secs : Nat} {e : Int32} (hsecs : secs ≤ 5000) (h9 : e.toInt ≤ 999999) : ∀ (k m : Nat) (xR xU xI xW : St) (w i : Nat) (cl : Int32), m < k → i + m ≤ secs → e.toInt = (xR.2 4).toInt + m → Inv xR xU xI xW n ni w → Settled xR xU xI xW n ni w → post (fTk n ni m (cl, (xR, xU, xI, xW))).1 (fTk n ni m (cl, (xR, xU, xI, xW))).2 → wl_R_tick_32 xR0 xU0 xI0 xW0 (nI secs) post postX k xR xU xI xW e cl (nI i) := by
  intro k
  induction k with
  | zero => intro m xR xU xI xW w i cl hk; omega
  | succ k ih =>
    intro m xR xU xI xW w i cl hk him he hI hS hp
    rcases Nat.eq_zero_or_pos m with q | q
    · subst q
      refine ⟨fun _ => hp, fun _ => ⟨fun _ => hp, fun c => ?_⟩⟩
      refine absurd ?_ c
      rw [Int32.le_iff_toInt_le]
      omega
    · refine ⟨fun c => ?_, fun _ => ⟨fun c => ?_, fun _ => ?_⟩⟩
      · rw [nI_leI (by omega) (by omega)] at c
        omega
      · have z := Int32.le_iff_toInt_le.mp c
        omega
      · have hn := hI.1
        have hni := hI.2.1
        refine p_nextChange hn.1 hn.2 hni.1 hni.2 ?_
        obtain ⟨d, hdm, hd, ht⟩ := p_jump (cl := cl) hI hS (by omega) he h9 rfl q
        have hI2 : Inv (sF xR 4 (fNC (xR.2 4) xU xI n ni e)) xU xI xW n ni w := hI.time (by omega) (by omega)
        refine p_settle hn.1 hni.1 hI.2.2.1.1 hn.2 hni.2 hI.2.2.1.2 ?_
        obtain ⟨w', hI3, hS3, hR3⟩ := p_setS hI2
        intro v hv j hj
        rw [hv, hj, p_s]
        rw [ht] at hp
        refine ih (m - (d + 1)) _ _ _ _ w' (i + 1) _ (by omega) (by omega) ?_ hI3 hS3 hp
        rw [hR3]
        show e.toInt = (fNC (xR.2 4) xU xI n ni e).toInt + (m - (d + 1) : Nat)
        omega
theorem m_tick {xM : St} {post : Int32 → St → Prop} {n ni secs : Nat} (hsecs : secs ≤ 5000) : ∀ (m : Nat) (y xR xU xI xW : St) (w k : Nat) (v : Int32), k + m = secs → (xR.2 4).toInt + m ≤ 999999 → Rel xR xU xI xW y → Inv xR xU xI xW n ni w → (∀ z, Rel (fTk n ni m (v, (xR, xU, xI, xW))).2.1 (fTk n ni m (v, (xR, xU, xI, xW))).2.2.1 (fTk n ni m (v, (xR, xU, xI, xW))).2.2.2.1 (fTk n ni m (v, (xR, xU, xI, xW))).2.2.2.2 z → post (fTk n ni m (v, (xR, xU, xI, xW))).1 z) → wl_M_tick_43 xM (nI secs) post (m + 1) y v (nI k) := by
  intro m
  induction m with
  | zero =>
    intro y xR xU xI xW w k v hk _ h hI hp
    refine ⟨fun _ => hp y h, fun c => ?_⟩
    rw [nI_leI (by omega) (by omega)] at c
    omega
  | succ m ih =>
    intro y xR xU xI xW w k v hk h9 h hI hp
    refine ⟨fun c => ?_, fun _ => ?_⟩
    · rw [nI_leI (by omega) (by omega)] at c
      omega
    · have e1 : (xR.2 4 + 1).toInt = (xR.2 4).toInt + 1 := p_t (d := 1) hI.2.2.2.1 (by omega)
      have hI2 : Inv (sF xR 4 (xR.2 4 + 1)) xU xI xW n ni w := hI.time (by omega) (by omega)
      have h2 : Rel (sF xR 4 (xR.2 4 + 1)) xU xI xW (sF y 1 (y.2 1 + 1)) := by
        rw [r_R4 h]
        exact s_R4 h (xR.2 4 + 1)
      have hw : wOf xW = w := p_wOf hI.2.2.1.2 hI.2.2.1.1
      obtain ⟨w', hI3, hS3, hR3⟩ := p_setS hI2
      refine m_settle h2 hI2 (fun z hz => ?_)
      intro a ha b hb
      rw [ha, hb, p_s]
      refine ih z _ _ _ _ w' (k + 1) _ (by omega) ?_ hz hI3 ?_
      · rw [hR3]
        show (xR.2 4 + 1).toInt + m ≤ 999999
        omega
      · have e2 : fTk n ni (m + 1) (v, (xR, xU, xI, xW)) = fTk n ni m (v + (fSet (sF xR 4 (xR.2 4 + 1)) xU xI xW n ni w).1, (fSet (sF xR 4 (xR.2 4 + 1)) xU xI xW n ni w).2) := by
          show fTk n ni m (v + (fStep n ni (xR, xU, xI, xW)).1, (fStep n ni (xR, xU, xI, xW)).2) = _
          have e3 : fStep n ni (xR, xU, xI, xW) = fSet (sF xR 4 (xR.2 4 + 1)) xU xI xW n ni w := by
            show fSet (sF xR 4 (xR.2 4 + 1)) xU xI xW n ni (wOf xW) = _
            rw [hw]
          rw [e3]
        rw [e2] at hp
        exact hp
/-- behind so many seconds: the invariant, settled -/
theorem p_tkS {n ni : Nat} : ∀ (m : Nat) (xR xU xI xW : St) (w : Nat) (v : Int32), (xR.2 4).toInt + m ≤ 999999 → Inv xR xU xI xW n ni w → Settled xR xU xI xW n ni w → ∃ w', Inv (fTk n ni m (v, (xR, xU, xI, xW))).2.1 (fTk n ni m (v, (xR, xU, xI, xW))).2.2.1 (fTk n ni m (v, (xR, xU, xI, xW))).2.2.2.1 (fTk n ni m (v, (xR, xU, xI, xW))).2.2.2.2 n ni w' ∧ Settled (fTk n ni m (v, (xR, xU, xI, xW))).2.1 (fTk n ni m (v, (xR, xU, xI, xW))).2.2.1 (fTk n ni m (v, (xR, xU, xI, xW))).2.2.2.1 (fTk n ni m (v, (xR, xU, xI, xW))).2.2.2.2 n ni w' := by
  intro m
  induction m with
  | zero => intro xR xU xI xW w v _ hI hS; exact ⟨w, hI, hS⟩
  | succ m ih =>
    intro xR xU xI xW w v h9 hI hS
    have e1 : (xR.2 4 + 1).toInt = (xR.2 4).toInt + 1 := p_t (d := 1) hI.2.2.2.1 (by omega)
    have hI2 : Inv (sF xR 4 (xR.2 4 + 1)) xU xI xW n ni w := hI.time (by omega) (by omega)
    have hw : wOf xW = w := p_wOf hI.2.2.1.2 hI.2.2.1.1
    obtain ⟨w', hI3, hS3, hR3⟩ := p_setS hI2
    have e2 : fTk n ni (m + 1) (v, (xR, xU, xI, xW)) = fTk n ni m (v + (fSet (sF xR 4 (xR.2 4 + 1)) xU xI xW n ni w).1, (fSet (sF xR 4 (xR.2 4 + 1)) xU xI xW n ni w).2) := by
      show fTk n ni m (v + (fStep n ni (xR, xU, xI, xW)).1, (fStep n ni (xR, xU, xI, xW)).2) = _
      have e3 : fStep n ni (xR, xU, xI, xW) = fSet (sF xR 4 (xR.2 4 + 1)) xU xI xW n ni w := by
        show fSet (sF xR 4 (xR.2 4 + 1)) xU xI xW n ni (wOf xW) = _
        rw [hw]
      rw [e3]
    rw [e2]
    have z9 : ((fSet (sF xR 4 (xR.2 4 + 1)) xU xI xW n ni w).2.1.2 4).toInt + m ≤ 999999 := by
      rw [hR3]
      show (xR.2 4 + 1).toInt + m ≤ 999999
      omega
    exact ih _ _ _ _ w' _ z9 hI3 hS3
