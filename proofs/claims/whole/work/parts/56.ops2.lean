/-! home, span, send, back, check, inside, report, watch -/
theorem p_near_no {x : St} {n : Nat} (hn : n ≤ 24) (h : fNear x n = -1) : ∀ u, u < n → ¬ x.1 5 u = 0 := by
  have key : ∀ (k i : Nat) (c : Int32), i + k = n → (¬ c = -1 ∨ ∃ u, i ≤ u ∧ u < n ∧ x.1 5 u = 0) → ¬ fF (sNear x) k i c = -1 := by
    intro k
    induction k with
    | zero =>
      intro i c hik hc
      rcases hc with hc | ⟨u, h1, h2, -⟩
      · exact hc
      · omega
    | succ k ih =>
      intro i c hik hc
      refine ih (i + 1) (sNear x i c) (by omega) ?_
      have hne : ¬ nI i = -1 := p_ne1 (by omega)
      by_cases c5 : x.1 5 i = 0
      · left
        unfold sNear
        rw [if_pos c5]
        by_cases c1 : c = -1
        · rw [if_pos c1]; exact hne
        · rw [if_neg c1]
          by_cases c2 : x.1 0 c.toNatClampNeg ≤ x.1 0 i
          · rw [if_pos c2]; exact c1
          · rw [if_neg c2]; exact hne
      · unfold sNear
        rw [if_neg c5]
        rcases hc with hc | ⟨u, a1, a2, a3⟩
        · exact Or.inl hc
        · refine Or.inr ⟨u, ?_, a2, a3⟩
          by_cases q5 : u = i
          · subst q5; exact absurd a3 c5
          · omega
  intro u hu e
  exact key n 0 (-1) (by omega) (Or.inr ⟨u, by omega, hu, e⟩) h
theorem p_nearNone {x y : St} {n : Nat} (hn : n ≤ 24) (e : ∀ u, u < n → y.1 5 u = x.1 5 u) (h : fNear x n = -1) : fNear y n = -1 := by
  rcases p_near_in (x := y) (n := n) with q | ⟨b, hb, q1, -⟩
  · exact q
  · exact absurd ((e b hb).symm.trans q1) (p_near_no hn h b hb)
section CASES
variable {xs : Nat → Int32} {L : Nat} {rec23 : Rec} {xR xU xI xW xM : St} {xo : Nat → Int64} {i4 : Int32}
theorem case_1 (hn : nxt rec23 i4) (hg : Good xR xU xI xW xM) (h1 : vp_in (i4 + 1) L) (h2 : vp_in (i4 + 2) L) : wc_law_1 xs L rec23 xR xU xI xW xM xo i4 := by
  obtain ⟨n, ni, w, t, hI, hS, hR⟩ := hg
  unfold wc_law_1
  generalize xs (i4 + 1).toNatClampNeg = a
  generalize xs (i4 + 2).toNatClampNeg = b
  have hU := hI.1
  refine ⟨h1, h2, ?_⟩
  by_cases ck : ∃ u, u < n ∧ a = nI u
  · obtain ⟨u, hu, rfl⟩ := ck
    have hin := p_in (show u < 24 by omega) (by omega)
    by_cases c : ¬ b < 0 ∧ b ≤ 99999
    · refine p_hasU_y hU.2 hU.1 hu (yy_t p_01 (yy_t c ⟨hin, h1, h2, m_isUnit_y hR hU.1 hU.2 hu (yy_f' p_01 (m_in_y c (yy_f' p_01 (m_thr0 hR (fun z hz => yy_t rfl ⟨hin, ?_⟩)))))⟩))
      rw [p_cl (by omega)]
      refine l_yes hn ⟨n, ni, w, 0, hI, ⟨hS.1, ?_, hS.2.2⟩, s_U0 hz u b⟩ (r_R0 (s_U0 hz u b))
      rcases hS.2.1 with q | q
      · exact Or.inl q
      · exact Or.inr (p_nearNone (x := xU) hU.1 (fun _ _ => rfl) q)
    · exact p_hasU_y hU.2 hU.1 hu (yy_t p_01 (yy_f c (yy_f neBA (yy_t rfl ⟨h1, h2, m_isUnit_y hR hU.1 hU.2 hu (yy_f' p_01 (m_in_n c (yy_t' rfl (m_thr2 hR (fun z hz => yy_f p_01 (l_no hn hI hS hz))))))⟩))))
  · refine p_hasU_n hU.2 hU.1 ck (yy_f (p_nn rfl) (yy_t rfl ⟨h1, h2, m_isUnit_n hR hU.1 hU.2 ck (yy_t' rfl ?_)⟩))
    exact m_in (fun _ => yy_f' p_01 (m_thr1 hR (fun z hz => yy_f p_01 (l_no hn hI hS hz)))) (fun _ => yy_t' rfl (m_thr1 hR (fun z hz => yy_f p_01 (l_no hn hI hS hz))))
theorem case_2 (hn : nxt rec23 i4) (hg : Good xR xU xI xW xM) (h1 : vp_in (i4 + 1) L) : wc_law_2 xs L rec23 xR xU xI xW xM xo i4 := by
  obtain ⟨n, ni, w, t, hI, hS, hR⟩ := hg
  unfold wc_law_2
  generalize xs (i4 + 1).toNatClampNeg = a
  by_cases c : ¬ a < 0 ∧ a ≤ 100000
  · refine ⟨h1, yy_t c ⟨h1, m_in_y c (yy_f' p_01 (m_thr0 hR (fun z hz => yy_t rfl ?_)))⟩⟩
    refine l_yes hn ⟨n, ni, w, 0, ?_, hS, s_R5 hz a⟩ (r_R0 (s_R5 hz a))
    obtain ⟨b1, b2, b3, b4, b5, b6⟩ := hI
    exact ⟨b1, b2, b3, b4, ⟨Int32.le_iff_toInt_le.mp (Int32.not_lt.mp c.1), Int32.le_iff_toInt_le.mp c.2⟩, b6⟩
  · exact ⟨h1, yy_f c (yy_t rfl ⟨h1, m_in_n c (yy_t' rfl (m_thr1 hR (fun z hz => yy_f p_01 (l_no hn hI hS hz))))⟩)⟩
theorem case_4 (hn : nxt rec23 i4) (hg : Good xR xU xI xW xM) (h1 : vp_in (i4 + 1) L) (h2 : vp_in (i4 + 2) L) : wc_law_4 xs L rec23 xR xU xI xW xM xo i4 := by
  obtain ⟨n, ni, w, t, hI, hS, hR⟩ := hg
  unfold wc_law_4
  generalize xs (i4 + 1).toNatClampNeg = a
  generalize xs (i4 + 2).toNatClampNeg = b
  have hU := hI.1
  have hN := hI.2.1
  refine ⟨h1, h2, ?_⟩
  by_cases ck : ∃ u, u < n ∧ a = nI u
  · obtain ⟨u, hu, rfl⟩ := ck
    have hin := p_in (show u < 24 by omega) (by omega)
    by_cases ci : ∃ i, i < ni ∧ b = nI i
    · obtain ⟨i, hi, rfl⟩ := ci
      have hin2 := p_in (show i < 20 by omega) (by omega)
      have eu : (nI u).toNatClampNeg = u := p_cl (by omega)
      have ei : (nI i).toNatClampNeg = i := p_cl (by omega)
      have mU : xM.1 8 (nI u).toNatClampNeg = xU.1 5 (nI u).toNatClampNeg := by rw [r_U5 hR]
      have mI : xM.1 17 (nI i).toNatClampNeg = xI.1 1 (nI i).toNatClampNeg := by rw [r_I1 hR]
      by_cases c1 : xU.1 5 (nI u).toNatClampNeg = 0
      · by_cases c2 : xI.1 1 (nI i).toNatClampNeg = 0
        · exact p_hasU_y hU.2 hU.1 hu (yy_f p_01 (p_hasI_y hN.2 hN.1 hi (yy_f p_01 (yy_t p_01 ⟨hin, yy_t' c1 ⟨hin2, yy_t c2 (yy_f (p_nn rfl) (yy_f neCA (yy_t rfl ⟨h1, h2, m_isUnit_y hR hU.1 hU.2 hu (yy_f p_01 (m_isInc_y hR hN.1 hN.2 hi (yy_f' p_01 (yy_t' rfl ⟨hin, yy_t' (mU.trans c1) ⟨hin2, yy_t' (mI.trans c2) (m_thr2 hR (fun z hz => yy_f p_01 (l_no hn hI hS hz)))⟩⟩))))⟩)))⟩⟩))))
        · refine p_hasU_y hU.2 hU.1 hu (yy_f p_01 (p_hasI_y hN.2 hN.1 hi (yy_f p_01 (yy_t p_01 ⟨hin, yy_t' c1 ⟨hin2, yy_f c2 (yy_t p_01 ?_)⟩⟩))))
          have hI2 : Inv xR (fGoTo xU u (nI i) (xR.2 4)) (sA xI 2 i 1) xW n ni w := by
            obtain ⟨b1, b2, b3, b4, b5, b6, b7, b8⟩ := hI
            exact ⟨b1, b2, b3, b4, b5, p_goTo_i b6 hu b4.1, b7, b8⟩
          refine p_goTo (by omega) ⟨hin2, ?_⟩
          rw [ei, p_b1]
          refine l_pset hI2 ⟨h1, h2, m_isUnit_y hR hU.1 hU.2 hu (yy_f p_01 (m_isInc_y hR hN.1 hN.2 hi (yy_f' p_01 (yy_t' rfl ⟨hin, yy_t' (mU.trans c1) ⟨hin2, yy_f' (fun q => c2 (mI.symm.trans q)) (m_thr0 hR (fun z hz => yy_t rfl (m_put hz (by omega) (by omega) (fun y hy => l_mset hI2 hy (fun z' hg e0 => l_yes hn hg e0)))))⟩⟩))))⟩
      · exact p_hasU_y hU.2 hU.1 hu (yy_f p_01 (p_hasI_y hN.2 hN.1 hi (yy_f p_01 (yy_t p_01 ⟨hin, yy_f' c1 (yy_f (p_nn rfl) (yy_f neCA (yy_t rfl ⟨h1, h2, m_isUnit_y hR hU.1 hU.2 hu (yy_f p_01 (m_isInc_y hR hN.1 hN.2 hi (yy_f' p_01 (yy_t' rfl ⟨hin, yy_f' (fun q => c1 (mU.symm.trans q)) (m_thr2 hR (fun z hz => yy_f p_01 (l_no hn hI hS hz)))⟩))))⟩)))⟩))))
    · exact p_hasU_y hU.2 hU.1 hu (yy_f p_01 (p_hasI_n hN.2 hN.1 ci (yy_t rfl (yy_f (p_nn rfl) (yy_t rfl ⟨h1, h2, m_isUnit_y hR hU.1 hU.2 hu (yy_f p_01 (m_isInc_n hR hN.1 hN.2 ci (yy_t' rfl (yy_f' p_01 (m_thr1 hR (fun z hz => yy_f p_01 (l_no hn hI hS hz)))))))⟩)))))
  · exact p_hasU_n hU.2 hU.1 ck (yy_t rfl (yy_f (p_nn rfl) (yy_t rfl ⟨h1, h2, m_isUnit_n hR hU.1 hU.2 ck (yy_t rfl (yy_f' p_01 (m_thr1 hR (fun z hz => yy_f p_01 (l_no hn hI hS hz)))))⟩)))
theorem case_6 (hn : nxt rec23 i4) (hg : Good xR xU xI xW xM) (h1 : vp_in (i4 + 1) L) : wc_law_6 xs L rec23 xR xU xI xW xM xo i4 := by
  obtain ⟨n, ni, w, t, hI, hS, hR⟩ := hg
  unfold wc_law_6
  generalize xs (i4 + 1).toNatClampNeg = a
  have hU := hI.1
  refine ⟨h1, ?_⟩
  by_cases ck : ∃ u, u < n ∧ a = nI u
  · obtain ⟨u, hu, rfl⟩ := ck
    have hin := p_in (show u < 24 by omega) (by omega)
    have eu : (nI u).toNatClampNeg = u := p_cl (by omega)
    have mU : xM.1 8 (nI u).toNatClampNeg = xU.1 5 (nI u).toNatClampNeg := by rw [r_U5 hR]
    by_cases c1 : xU.1 5 (nI u).toNatClampNeg = 2
    · have hI2 : Inv xR (fBec xU u 3 (xR.2 4)) xI xW n ni w := by
        obtain ⟨b1, b2, b3, b4, b5, b6, b7, b8⟩ := hI
        exact ⟨b1, b2, b3, b4, b5, p_bec_i b6 hu (by decide) b4.1, b7, b8⟩
      exact p_hasU_y hU.2 hU.1 hu (yy_t p_01 ⟨hin, yy_t' c1 (yy_t p_01 (p_become (by omega) (l_pset hI2 ⟨h1, m_isUnit_y hR hU.1 hU.2 hu (yy_f' p_01 (yy_t' rfl ⟨hin, yy_t (mU.trans c1) (m_thr0 hR (fun z hz => yy_t rfl (m_become hz (by omega) (fun y hy => l_mset hI2 hy (fun z' hg e0 => l_yes hn hg e0)))))⟩))⟩)))⟩)
    · exact p_hasU_y hU.2 hU.1 hu (yy_t p_01 ⟨hin, yy_f' c1 (yy_f (p_nn rfl) (yy_f neCA (yy_t rfl ⟨h1, m_isUnit_y hR hU.1 hU.2 hu (yy_f' p_01 (yy_t' rfl ⟨hin, yy_f (fun q => c1 (mU.symm.trans q)) (m_thr2 hR (fun z hz => yy_f p_01 (l_no hn hI hS hz)))⟩))⟩)))⟩)
  · exact p_hasU_n hU.2 hU.1 ck (yy_f (p_nn rfl) (yy_t rfl ⟨h1, m_isUnit_n hR hU.1 hU.2 ck (yy_t' rfl (yy_f' p_01 (m_thr1 hR (fun z hz => yy_f p_01 (l_no hn hI hS hz)))))⟩))
end CASES
