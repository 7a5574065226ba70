/-! release -/
def fRl (n : Nat) (a sec : Int32) : Nat → St → St × Nat
  | 0, x => (x, 0)
  | m + 1, x => if fFar x a n = -1 then (x, 0) else ((fRl n a sec m (fBec x (fFar x a n).toNatClampNeg 2 sec)).1, (fRl n a sec m (fBec x (fFar x a n).toNatClampNeg 2 sec)).2 + 1)
theorem p_rl_i {n : Nat} {a sec : Int32} (hn : n ≤ 24) (hs : 0 ≤ sec.toInt) : ∀ (m : Nat) (x : St), iUn n sec x → iUn n sec (fRl n a sec m x).1 ∧ (fRl n a sec m x).1.2 = x.2 := by
  intro m
  induction m with
  | zero => intro x h; exact ⟨h, rfl⟩
  | succ m ih =>
    intro x h
    unfold fRl
    by_cases c : fFar x a n = -1
    · rw [if_pos c]; exact ⟨h, rfl⟩
    · rw [if_neg c]
      rcases p_far_in (x := x) (a := a) (n := n) with q | ⟨b, hb, -, q⟩
      · exact absurd q c
      · rw [q, p_cl (by omega)]
        obtain ⟨i1, i2⟩ := ih (fBec x b 2 sec) (p_bec_i h hb (by decide) hs)
        exact ⟨i1, i2⟩
theorem p_rl {xR xU xI xW : St} {a : Int32} {n N : Nat} {post : Int32 → (St × St × St × St) → Prop} {postX : String → (St × St × St × St) → Prop} (hl : n ≤ 24) (hN : N ≤ 24) : ∀ (m j : Nat) (x : St), j + m = N → x.2 10 = nI n → wp_R_settle xR (fRl n a (xR.2 4) m x).1 xI xW (fun _ u84 => post (nI (j + (fRl n a (xR.2 4) m x).2)) (u84.1, u84.2.1, u84.2.2.1, u84.2.2.2)) → wl_R_release_35 xR xU xI xW a (nI N) post postX (m + 1) xR x xI xW (nI j) (nI j) := by
  intro m
  induction m with
  | zero =>
    intro j x hj hx hw
    refine ⟨fun _ => hw, fun c => ?_⟩
    rw [p_le (by omega) (by omega)] at c
    omega
  | succ m ih =>
    intro j x hj hx hw
    refine ⟨fun c => ?_, fun _ => p_farthest hx hl ⟨fun c => ?_, fun c => ?_⟩⟩
    · rw [p_le (by omega) (by omega)] at c
      omega
    · rcases p_far_in (x := x) (a := a) (n := n) with q | ⟨b, hb, -, q⟩
      · exact absurd q c
      · rw [q]
        refine p_become (by omega) ?_
        intro v3 h3 v4 h4
        rw [h3, h4, p_s]
        refine ih (j + 1) (fBec x b 2 (xR.2 4)) (by omega) hx ?_
        unfold fRl at hw
        rw [if_neg c, q, p_cl (by omega)] at hw
        rw [show j + 1 + (fRl n a (xR.2 4) m (fBec x b 2 (xR.2 4))).2 = j + ((fRl n a (xR.2 4) m (fBec x b 2 (xR.2 4))).2 + 1) by omega]
        exact hw
    · unfold fRl at hw
      rw [if_pos c] at hw
      exact hw
section MREL
variable {xR xU xI xW xM : St} {a2 : Int32} {n i : Nat} {post : Int32 → St → Prop} {rec48 : St → Int32 → Int32 → Prop}
theorem m_rl64 {y : St} {v3 : Int32} (h : Rel xR xU xI xW y) (hl : n ≤ 24) (hn : xU.2 10 = nI n) (hI : iInc n xU) (hi : i < 20) (h0 : fFar xU (nI i) n = -1 → rec48 y v3 (-1)) (h1 : ∀ b, b < n → fFar xU (nI i) n = nI b → ∀ z, Rel xR (fBec xU b 2 (xR.2 4)) xI xW z → rec48 z (v3 + 1) (nI b)) : ∃ k9 : Nat, wl_M_release_64 xM (nI i) a2 post rec48 k9 y v3 (-1) 0 := by
  refine ⟨n + 1, ?_⟩
  refine p_loop (Wl := fun k b j => wl_M_release_64 xM (nI i) a2 post rec48 k y v3 b j) (N := n) (step := sFar xU (nI i)) (I := fun j b => iBest (fun v => xU.1 6 v = nI i) j b) (post := fun b => b = fFar xU (nI i) n) ?_ ?_ (fun b j _ q => p_farI q) n 0 (-1) (by omega) (Or.inl rfl) rfl
  · intro k b hb hp
    subst hp
    refine ⟨fun _ => ?_, fun c => ?_⟩
    · rcases hb with q | ⟨v, hv, -, q⟩
      · rw [q]
        exact yy_t (by decide) (h0 q)
      · have h2 := h1 v hv q
        rw [q]
        refine yy_f (p_neg (by omega)) (m_become h (by omega) (fun z hz => ?_))
        intro v3' e3
        rw [e3]
        exact h2 z hz
    · rw [r_U10 h, hn, p_le (by omega) (by omega)] at c
      omega
  · intro k b j hj hb hw
    have hin := p_in (show j < 24 by omega) (by omega)
    have hneg : b < 0 → b = -1 := by
      intro c
      rcases hb with q | ⟨v, hv, -, q⟩
      · exact q
      · rw [q] at c; exact absurd c (p_neg (by omega))
    have hpos : ¬ b < 0 → ¬ b = -1 := fun c q => c (by rw [q]; decide)
    refine ⟨fun c => ?_, fun _ => ?_⟩
    · rw [r_U10 h, hn, p_le (by omega) (by omega)] at c
      omega
    · rw [p_cl (by omega), r_U5 h, r_U6 h, r_U0 h]
      unfold sFar at hw
      refine ⟨hin, fun c => ?_, fun c => ⟨hin, fun c2 => ?_, fun c2 => ⟨fun c3 => ?_, fun c3 => ⟨hin, ?_, fun c4 => ?_, fun c4 => ?_⟩⟩⟩⟩
      · intro v hv; rw [hv, p_s]
        rw [if_neg (fun q => by
          have q2 : xU.1 6 j = nI i := q
          rw [hI j hj c] at q2
          exact p_ne1 (by omega) q2.symm)] at hw
        exact hw
      · intro v hv; rw [hv, p_s]; rw [if_neg c2] at hw; exact hw
      · intro v hv; rw [hv, p_s]; rw [if_pos c2, if_pos (hneg c3)] at hw; exact hw
      · rcases hb with q | ⟨v, hv, -, q⟩
        · exact absurd q (hpos c3)
        · rw [q]; exact p_in (by omega) (by omega)
      · intro v hv; rw [hv, p_s]; rw [if_pos c2, if_neg (hpos c3), if_pos c4] at hw; exact hw
      · intro v hv; rw [hv, p_s]; rw [if_pos c2, if_neg (hpos c3), if_neg c4] at hw; exact hw
theorem m_rl {N : Nat} (hl : n ≤ 24) (hN : N ≤ 24) (hi : i < 20) (hs : 0 ≤ (xR.2 4).toInt) : ∀ (m j : Nat) (xU y : St) (v4 : Int32), j + m = N → ¬ v4 < 0 → xU.2 10 = nI n → iUn n (xR.2 4) xU → Rel xR xU xI xW y → (∀ z, Rel xR (fRl n (nI i) (xR.2 4) m xU).1 xI xW z → wp_M_settle z (fun _ u147 => post (nI (j + (fRl n (nI i) (xR.2 4) m xU).2)) u147)) → wl_M_release_48 xM (nI i) (nI N) post (m + 1) y (nI j) v4 := by
  intro m
  induction m with
  | zero =>
    intro j xU y v4 hj hv hn hU h hw
    refine ⟨fun _ => hw y h, fun c => ?_⟩
    rw [p_le (by omega) (by omega)] at c
    omega
  | succ m ih =>
    intro j xU y v4 hj hv hn hU h hw
    refine ⟨fun c => ?_, fun _ => yy_f hv ?_⟩
    · rw [p_le (by omega) (by omega)] at c
      omega
    · refine m_rl64 h hl hn hU.2.1 hi (fun c => ?_) (fun b hb q z hz => ?_)
      · unfold fRl at hw
        rw [if_pos c] at hw
        cases m with
        | zero => exact ⟨fun _ => hw y h, fun _ => yy_t (by decide) (hw y h)⟩
        | succ m => exact ⟨fun _ => hw y h, fun _ => yy_t (by decide) (hw y h)⟩
      · rw [p_s]
        have c : ¬ fFar xU (nI i) n = -1 := by rw [q]; exact p_ne1 (by omega)
        refine ih (j + 1) (fBec xU b 2 (xR.2 4)) z (nI b) (by omega) (p_neg (by omega)) hn (p_bec_i hU hb (by decide) hs) hz (fun z' hz' => ?_)
        unfold fRl at hw
        rw [if_neg c, q, p_cl (by omega)] at hw
        rw [show j + 1 + (fRl n (nI i) (xR.2 4) m (fBec xU b 2 (xR.2 4))).2 = j + ((fRl n (nI i) (xR.2 4) m (fBec xU b 2 (xR.2 4))).2 + 1) by omega]
        exact hw z' hz'
end MREL
section CASES
variable {xs : Nat → Int32} {L : Nat} {rec23 : Rec} {xR xU xI xW xM : St} {xo : Nat → Int64} {i4 : Int32}
theorem case_5 (hn : nxt rec23 i4) (hg : Good xR xU xI xW xM) (h1 : vp_in (i4 + 1) L) (h2 : vp_in (i4 + 2) L) : wc_law_5 xs L rec23 xR xU xI xW xM xo i4 := by
  obtain ⟨n, ni, w, t, hI, hS, hR⟩ := hg
  unfold wc_law_5
  generalize xs (i4 + 1).toNatClampNeg = a
  generalize xs (i4 + 2).toNatClampNeg = b
  have hU := hI.1
  have hN := hI.2.1
  refine ⟨h1, h2, ?_⟩
  by_cases ck : ∃ u, u < ni ∧ a = nI u
  · obtain ⟨u, hu, rfl⟩ := ck
    have hin := p_in (show u < 20 by omega) (by omega)
    have eu : (nI u).toNatClampNeg = u := p_cl (by omega)
    by_cases c : ¬ b < 1 ∧ b ≤ 24
    · by_cases c1 : xI.1 1 u = 0
      · exact p_hasI_y hN.2 hN.1 hu (yy_t p_01 (yy_t c ⟨hin, yy_f (p_nn (by rw [eu]; exact c1)) (yy_f neCA (yy_f neCB (yy_t rfl ⟨h1, h2, m_isInc_y hR hN.1 hN.2 hu (yy_f' p_01 (m_in_y c (yy_f' p_01 (m_shut_c hR hN.1 hN.2 hu c1 (m_thr3 hR (fun z hz => yy_f p_01 (l_noi (by decide) hn hI hS hz)))))))⟩)))⟩))
      · obtain ⟨N, hN24, rfl⟩ : ∃ N : Nat, N ≤ 24 ∧ b = nI N := by
          have e1 : (1 : Int32).toInt = 1 := by decide
          have e24 : (24 : Int32).toInt = 24 := by decide
          have x1 := Int32.le_iff_toInt_le.mp (Int32.not_lt.mp c.1)
          have x2 := Int32.le_iff_toInt_le.mp c.2
          refine ⟨b.toInt.toNat, by omega, Int32.toInt_inj.mp ?_⟩
          rw [nI_toInt (by omega)]
          omega
        have hI2 : Inv xR (fRl n (nI u) (xR.2 4) N xU).1 xI xW n ni w := by
          obtain ⟨b1, b2, b3, b4, b5, b6, b7, b8⟩ := hI
          obtain ⟨i1, i2⟩ := p_rl_i (a := nI u) b1.1 b4.1 N xU b6
          exact ⟨⟨b1.1, by rw [i2]; exact b1.2⟩, b2, b3, b4, b5, i1, b7, b8⟩
        have hI0 : iUn n ((sF xR 0 0).2 4) xU := hI.2.2.2.2.2.1
        have hs0 : 0 ≤ ((sF xR 0 0).2 4).toInt := hI.2.2.2.1.1
        refine p_hasI_y hN.2 hN.1 hu (yy_t p_01 (yy_t c ⟨hin, yy_t (by rw [eu]; exact c1) ⟨N + 1, p_rl hU.1 hN24 N 0 xU (by omega) hU.2 (l_pset hI2 ⟨l_in01, h1, h2, m_isInc_y hR hN.1 hN.2 hu (yy_f' p_01 (m_in_y c (yy_f' p_01 (m_shut_o hR hN.1 hN.2 hu c1 (m_thr0 hR (fun z hz => yy_t rfl ⟨N + 1, ?_⟩))))))⟩)⟩⟩))
        exact m_rl (xR := sF xR 0 0) hU.1 hN24 (by omega) hs0 N 0 xU z 0 (by omega) (by decide) hU.2 hI0 hz (fun z2 hz2 => l_mset hI2 hz2 (fun z' hg e0 => l_yesi hn hg e0 rfl))
    · refine p_hasI_y hN.2 hN.1 hu (yy_t p_01 (yy_f c (yy_f neBA (yy_t rfl ⟨h1, h2, m_isInc_y hR hN.1 hN.2 hu (yy_f' p_01 (m_in_n c (yy_t' rfl ?_)))⟩))))
      exact m_isShut hR hN.1 hN.2 (fun _ _ _ _ => m_thr2 hR (fun z hz => yy_f p_01 (l_noi (by decide) hn hI hS hz))) (fun _ _ _ _ => m_thr2 hR (fun z hz => yy_f p_01 (l_noi (by decide) hn hI hS hz))) (fun _ => m_thr2 hR (fun z hz => yy_f p_01 (l_noi (by decide) hn hI hS hz)))
  · refine p_hasI_n hN.2 hN.1 ck (yy_f (p_nn rfl) (yy_t rfl ⟨h1, h2, m_isInc_n hR hN.1 hN.2 ck (yy_t' rfl ?_)⟩))
    exact m_in (fun _ => yy_f' p_01 (m_shut_n hR hN.1 hN.2 ck (m_thr1 hR (fun z hz => yy_f p_01 (l_noi (by decide) hn hI hS hz))))) (fun _ => yy_t' rfl (m_shut_n hR hN.1 hN.2 ck (m_thr1 hR (fun z hz => yy_f p_01 (l_noi (by decide) hn hI hS hz)))))
end CASES
