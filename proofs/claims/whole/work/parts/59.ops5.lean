/-! unitAt, incidentAt, count -/
section CASES
variable {xs : Nat → Int32} {L : Nat} {rec23 : Rec} {xR xU xI xW xM : St} {xo : Nat → Int64} {i4 : Int32}
theorem case_14 (hn : nxt rec23 i4) (hg : Good xR xU xI xW xM) (h1 : vp_in (i4 + 1) L) (h2 : vp_in (i4 + 2) L) : wc_law_14 xs L rec23 xR xU xI xW xM xo i4 := by
  obtain ⟨n, ni, w, t, hI, hS, hR⟩ := hg
  unfold wc_law_14
  generalize xs (i4 + 1).toNatClampNeg = a
  generalize xs (i4 + 2).toNatClampNeg = b
  have hU := hI.1
  refine ⟨h1, h2, ?_⟩
  by_cases ck : ∃ u, u < n ∧ a = nI u
  · obtain ⟨u, hu, rfl⟩ := ck
    have hin := p_in (show u < 24 by omega) (by omega)
    have eu : (nI u).toNatClampNeg = u := p_cl (by omega)
    by_cases b0 : b = 0
    · subst b0
      exact p_hasU_y hU.2 hU.1 hu (yy_t p_01 (yy_t rfl ⟨hin, l_in01, h1, h2, m_isUnit_y hR hU.1 hU.2 hu (yy_f p_01 (m_in_y (by decide) (yy_f' p_01 (m_thr0 hR (fun z hz => yy_t rfl (yy_t rfl ⟨hin, l_yesi hn ⟨n, ni, w, 0, hI, hS, hz⟩ (r_R0 hz) (by rw [r_U5 hz])⟩))))))⟩))
    by_cases b1 : b = 1
    · subst b1
      exact p_hasU_y hU.2 hU.1 hu (yy_t p_01 (yy_f b0 (yy_t rfl ⟨hin, l_in01, h1, h2, m_isUnit_y hR hU.1 hU.2 hu (yy_f p_01 (m_in_y (by decide) (yy_f' p_01 (m_thr0 hR (fun z hz => yy_t rfl (yy_f b0 (yy_t rfl ⟨hin, l_yesi hn ⟨n, ni, w, 0, hI, hS, hz⟩ (r_R0 hz) (by rw [r_U6 hz])⟩)))))))⟩)))
    by_cases b2 : b = 2
    · subst b2
      exact p_hasU_y hU.2 hU.1 hu (yy_t p_01 (yy_f b0 (yy_f b1 (yy_t rfl ⟨hin, l_in01, h1, h2, m_isUnit_y hR hU.1 hU.2 hu (yy_f p_01 (m_in_y (by decide) (yy_f' p_01 (m_thr0 hR (fun z hz => yy_t rfl (yy_f b0 (yy_f b1 (yy_t rfl ⟨hin, l_yesi hn ⟨n, ni, w, 0, hI, hS, hz⟩ (r_R0 hz) (by rw [r_U7 hz])⟩))))))))⟩))))
    by_cases b3 : b = 3
    · subst b3
      by_cases c5 : xU.1 5 (nI u).toNatClampNeg = 5
      · refine p_hasU_y hU.2 hU.1 hu (yy_t p_01 (yy_f b0 (yy_f b1 (yy_f b2 (yy_t rfl ⟨hin, yy_t' c5 (p_checksToDo (by omega) ⟨l_in01, h1, h2, m_isUnit_y hR hU.1 hU.2 hu (yy_f p_01 (m_in_y (by decide) (yy_f' p_01 (m_thr0 hR (fun z hz => yy_t rfl (yy_f b0 (yy_f b1 (yy_f b2 (yy_t rfl ⟨hin, yy_t' (by rw [r_U5 hz]; exact c5) ⟨hin, hin, l_yesi hn ⟨n, ni, w, 0, hI, hS, hz⟩ (r_R0 hz) ?_⟩⟩)))))))))⟩)⟩)))))
        rw [eu, r_U3 hz, r_U4 hz]
        rfl
      · exact p_hasU_y hU.2 hU.1 hu (yy_t p_01 (yy_f b0 (yy_f b1 (yy_f b2 (yy_t rfl ⟨hin, yy_f' c5 ⟨l_in01, h1, h2, m_isUnit_y hR hU.1 hU.2 hu (yy_f p_01 (m_in_y (by decide) (yy_f' p_01 (m_thr0 hR (fun z hz => yy_t rfl (yy_f b0 (yy_f b1 (yy_f b2 (yy_t rfl ⟨hin, yy_f' (by rw [r_U5 hz]; exact c5) (l_yesi hn ⟨n, ni, w, 0, hI, hS, hz⟩ (r_R0 hz) rfl)⟩)))))))))⟩⟩)))))
    by_cases b4 : b = 4
    · subst b4
      exact p_hasU_y hU.2 hU.1 hu (yy_t p_01 (yy_f b0 (yy_f b1 (yy_f b2 (yy_f b3 (yy_t rfl ⟨hin, l_in01, h1, h2, m_isUnit_y hR hU.1 hU.2 hu (yy_f p_01 (m_in_y (by decide) (yy_f' p_01 (m_thr0 hR (fun z hz => yy_t rfl (yy_f b0 (yy_f b1 (yy_f b2 (yy_f b3 ⟨hin, l_yesi hn ⟨n, ni, w, 0, hI, hS, hz⟩ (r_R0 hz) (by rw [r_U8 hz])⟩)))))))))⟩))))))
    have c : ¬ (¬ b < 0 ∧ b ≤ 4) := by
      intro q
      obtain ⟨k, hk, e⟩ := (p_idx (n := 5) (by omega)).mp (show ¬ b < 0 ∧ b ≤ nI 5 - 1 from q)
      have hk2 : k = 0 ∨ k = 1 ∨ k = 2 ∨ k = 3 ∨ k = 4 := by omega
      rcases hk2 with z | z | z | z | z
      all_goals subst z
      · exact b0 e
      · exact b1 e
      · exact b2 e
      · exact b3 e
      · exact b4 e
    exact p_hasU_y hU.2 hU.1 hu (yy_t p_01 (yy_f b0 (yy_f b1 (yy_f b2 (yy_f b3 (yy_f b4 (yy_t rfl ⟨h1, h2, m_isUnit_y hR hU.1 hU.2 hu (yy_f p_01 (m_in_n c (yy_t' rfl (m_thr1 hR (fun z hz => yy_f p_01 (l_noi (by decide) hn hI hS hz))))))⟩)))))))
  · exact p_hasU_n hU.2 hU.1 ck (yy_f (p_nn rfl) (yy_t rfl ⟨h1, h2, m_isUnit_n hR hU.1 hU.2 ck (yy_t rfl (m_thr1 hR (fun z hz => yy_f p_01 (l_noi (by decide) hn hI hS hz))))⟩))
theorem case_15 (hn : nxt rec23 i4) (hg : Good xR xU xI xW xM) (h1 : vp_in (i4 + 1) L) (h2 : vp_in (i4 + 2) L) : wc_law_15 xs L rec23 xR xU xI xW xM xo i4 := by
  obtain ⟨n, ni, w, t, hI, hS, hR⟩ := hg
  unfold wc_law_15
  generalize xs (i4 + 1).toNatClampNeg = a
  generalize xs (i4 + 2).toNatClampNeg = b
  have hU := hI.1
  have hN := hI.2.1
  have hW := hI.2.2.1
  refine ⟨h1, h2, ?_⟩
  by_cases ck : ∃ u, u < ni ∧ a = nI u
  · obtain ⟨u, hu, rfl⟩ := ck
    have hin := p_in (show u < 20 by omega) (by omega)
    have eu : (nI u).toNatClampNeg = u := p_cl (by omega)
    by_cases b0 : b = 0
    · subst b0
      refine p_hasI_y hN.2 hN.1 hu (yy_t p_01 (yy_t rfl ⟨hin, fun c => ⟨l_in01, h1, h2, m_isInc_y hR hN.1 hN.2 hu (yy_f p_01 (m_in_y (by decide) (yy_f' p_01 (m_thr0 hR (fun z hz => yy_t rfl (yy_t rfl ⟨hin, yy_t (by rw [r_I1 hz]; exact c) (l_yesi hn ⟨n, ni, w, 0, hI, hS, hz⟩ (r_R0 hz) rfl)⟩))))))⟩, fun c => ⟨l_in01, h1, h2, m_isInc_y hR hN.1 hN.2 hu (yy_f p_01 (m_in_y (by decide) (yy_f' p_01 (m_thr0 hR (fun z hz => yy_t rfl (yy_t rfl ⟨hin, yy_f (by rw [r_I1 hz]; exact c) (l_yesi hn ⟨n, ni, w, 0, hI, hS, hz⟩ (r_R0 hz) rfl)⟩))))))⟩⟩))
    by_cases b1 : b = 1
    · subst b1
      exact p_hasI_y hN.2 hN.1 hu (yy_t p_01 (yy_f b0 (yy_t rfl (p_countAt hU.2 hU.1 ⟨l_in01, h1, h2, m_isInc_y hR hN.1 hN.2 hu (yy_f p_01 (m_in_y (by decide) (yy_f' p_01 (m_thr0 hR (fun z hz => yy_t rfl (yy_f b0 (yy_t rfl (m_there hz hU.2 hU.1 (by omega) hI.2.2.2.2.2.1.2.1 (l_yesi hn ⟨n, ni, w, 0, hI, hS, hz⟩ (r_R0 hz) rfl)))))))))⟩))))
    by_cases b2 : b = 2
    · subst b2
      exact p_hasI_y hN.2 hN.1 hu (yy_t p_01 (yy_f b0 (yy_f b1 (yy_t rfl (p_countFor hW.2.1 hW.1 ⟨l_in01, h1, h2, m_isInc_y hR hN.1 hN.2 hu (yy_f p_01 (m_in_y (by decide) (yy_f' p_01 (m_thr0 hR (fun z hz => yy_t rfl (yy_f b0 (yy_f b1 (yy_t rfl (m_waitingFor hz hW.2.1 hW.1 (l_yesi hn ⟨n, ni, w, 0, hI, hS, hz⟩ (r_R0 hz) rfl))))))))))⟩)))))
    by_cases b3 : b = 3
    · subst b3
      exact p_hasI_y hN.2 hN.1 hu (yy_t p_01 (yy_f b0 (yy_f b1 (yy_f b2 (yy_t rfl ⟨hin, l_in01, h1, h2, m_isInc_y hR hN.1 hN.2 hu (yy_f p_01 (m_in_y (by decide) (yy_f' p_01 (m_thr0 hR (fun z hz => yy_t rfl (yy_f b0 (yy_f b1 (yy_f b2 (yy_t rfl ⟨hin, l_yesi hn ⟨n, ni, w, 0, hI, hS, hz⟩ (r_R0 hz) (by rw [r_I6 hz])⟩)))))))))⟩)))))
    by_cases b4 : b = 4
    · subst b4
      exact p_hasI_y hN.2 hN.1 hu (yy_t p_01 (yy_f b0 (yy_f b1 (yy_f b2 (yy_f b3 (yy_t rfl ⟨hin, l_in01, h1, h2, m_isInc_y hR hN.1 hN.2 hu (yy_f p_01 (m_in_y (by decide) (yy_f' p_01 (m_thr0 hR (fun z hz => yy_t rfl (yy_f b0 (yy_f b1 (yy_f b2 (yy_f b3 (yy_t rfl ⟨hin, l_yesi hn ⟨n, ni, w, 0, hI, hS, hz⟩ (r_R0 hz) (by rw [r_I7 hz])⟩))))))))))⟩))))))
    by_cases b5 : b = 5
    · subst b5
      exact p_hasI_y hN.2 hN.1 hu (yy_t p_01 (yy_f b0 (yy_f b1 (yy_f b2 (yy_f b3 (yy_f b4 (yy_t rfl ⟨hin, l_in01, h1, h2, m_isInc_y hR hN.1 hN.2 hu (yy_f p_01 (m_in_y (by decide) (yy_f' p_01 (m_thr0 hR (fun z hz => yy_t rfl (yy_f b0 (yy_f b1 (yy_f b2 (yy_f b3 (yy_f b4 (yy_t rfl ⟨hin, l_yesi hn ⟨n, ni, w, 0, hI, hS, hz⟩ (r_R0 hz) (by rw [r_I8 hz])⟩)))))))))))⟩)))))))
    by_cases b6 : b = 6
    · subst b6
      exact p_hasI_y hN.2 hN.1 hu (yy_t p_01 (yy_f b0 (yy_f b1 (yy_f b2 (yy_f b3 (yy_f b4 (yy_f b5 (yy_t rfl ⟨hin, l_in01, h1, h2, m_isInc_y hR hN.1 hN.2 hu (yy_f p_01 (m_in_y (by decide) (yy_f' p_01 (m_thr0 hR (fun z hz => yy_t rfl (yy_f b0 (yy_f b1 (yy_f b2 (yy_f b3 (yy_f b4 (yy_f b5 (yy_t rfl ⟨hin, l_yesi hn ⟨n, ni, w, 0, hI, hS, hz⟩ (r_R0 hz) (by rw [r_I3 hz])⟩))))))))))))⟩))))))))
    by_cases b7 : b = 7
    · subst b7
      have hwt : inR (xI.1 5 u) (-1) 999999 := (hI.2.2.2.2.2.2.2.1 u hu).2.1
      have hlt : xI.1 5 (nI u).toNatClampNeg < 0 ↔ xI.1 5 (nI u).toNatClampNeg = -1 := by
        rw [eu, Int32.lt_iff_toInt_lt]
        have e0 : (0 : Int32).toInt = 0 := by decide
        have e1 : (-1 : Int32).toInt = -1 := by decide
        have hw1 := hwt.1
        constructor
        · intro q
          refine Int32.toInt_inj.mp ?_
          omega
        · intro q
          rw [q, e0, e1]
          omega
      refine p_hasI_y hN.2 hN.1 hu (yy_t p_01 (yy_f b0 (yy_f b1 (yy_f b2 (yy_f b3 (yy_f b4 (yy_f b5 (yy_f b6 (yy_t rfl ⟨hin, fun c1 => yy_t rfl ?_, fun c1 => ⟨hin, fun c2 => yy_t rfl ?_, fun c2 => ⟨hin, fun c3 => yy_t rfl ?_, fun c3 => yy_f p_01 ?_⟩⟩⟩)))))))))
      · exact ⟨l_in01, h1, h2, m_isInc_y hR hN.1 hN.2 hu (yy_f p_01 (m_in_y (by decide) (yy_f' p_01 (m_thr0 hR (fun z hz => yy_t rfl (yy_f b0 (yy_f b1 (yy_f b2 (yy_f b3 (yy_f b4 (yy_f b5 (yy_f b6 ⟨hin, yy_t (by rw [r_I1 hz]; exact c1) (l_yesi hn ⟨n, ni, w, 0, hI, hS, hz⟩ (r_R0 hz) rfl)⟩))))))))))))⟩
      · exact ⟨l_in01, h1, h2, m_isInc_y hR hN.1 hN.2 hu (yy_f p_01 (m_in_y (by decide) (yy_f' p_01 (m_thr0 hR (fun z hz => yy_t rfl (yy_f b0 (yy_f b1 (yy_f b2 (yy_f b3 (yy_f b4 (yy_f b5 (yy_f b6 ⟨hin, yy_f (by rw [r_I1 hz]; exact c1) ⟨hin, yy_t (by rw [r_I5 hz]; exact hlt.mpr c2) (l_yesi hn ⟨n, ni, w, 0, hI, hS, hz⟩ (r_R0 hz) rfl)⟩⟩))))))))))))⟩
      · exact ⟨l_in01, h1, h2, m_isInc_y hR hN.1 hN.2 hu (yy_f p_01 (m_in_y (by decide) (yy_f' p_01 (m_thr0 hR (fun z hz => yy_t rfl (yy_f b0 (yy_f b1 (yy_f b2 (yy_f b3 (yy_f b4 (yy_f b5 (yy_f b6 ⟨hin, yy_f (by rw [r_I1 hz]; exact c1) ⟨hin, yy_f (by rw [r_I5 hz]; exact fun q => c2 (hlt.mp q)) ⟨hin, yy_t (by rw [r_I5 hz, r_R4 hz]; exact c3) (l_yesi hn ⟨n, ni, w, 0, hI, hS, hz⟩ (r_R0 hz) rfl)⟩⟩⟩))))))))))))⟩
      · exact ⟨l_in01, h1, h2, m_isInc_y hR hN.1 hN.2 hu (yy_f p_01 (m_in_y (by decide) (yy_f' p_01 (m_thr0 hR (fun z hz => yy_t rfl (yy_f b0 (yy_f b1 (yy_f b2 (yy_f b3 (yy_f b4 (yy_f b5 (yy_f b6 ⟨hin, yy_f (by rw [r_I1 hz]; exact c1) ⟨hin, yy_f (by rw [r_I5 hz]; exact fun q => c2 (hlt.mp q)) ⟨hin, yy_f (by rw [r_I5 hz, r_R4 hz]; exact c3) (l_yesi hn ⟨n, ni, w, 0, hI, hS, hz⟩ (r_R0 hz) rfl)⟩⟩⟩))))))))))))⟩
    have c : ¬ (¬ b < 0 ∧ b ≤ 7) := by
      intro q
      obtain ⟨k, hk, e⟩ := (p_idx (n := 8) (by omega)).mp (show ¬ b < 0 ∧ b ≤ nI 8 - 1 from q)
      have hk2 : k = 0 ∨ k = 1 ∨ k = 2 ∨ k = 3 ∨ k = 4 ∨ k = 5 ∨ k = 6 ∨ k = 7 := by omega
      rcases hk2 with z | z | z | z | z | z | z | z
      all_goals subst z
      · exact b0 e
      · exact b1 e
      · exact b2 e
      · exact b3 e
      · exact b4 e
      · exact b5 e
      · exact b6 e
      · exact b7 e
    exact p_hasI_y hN.2 hN.1 hu (yy_t p_01 (yy_f b0 (yy_f b1 (yy_f b2 (yy_f b3 (yy_f b4 (yy_f b5 (yy_f b6 (yy_f b7 (yy_t rfl ⟨h1, h2, m_isInc_y hR hN.1 hN.2 hu (yy_f p_01 (m_in_n c (yy_t' rfl (m_thr1 hR (fun z hz => yy_f p_01 (l_noi (by decide) hn hI hS hz))))))⟩))))))))))
  · exact p_hasI_n hN.2 hN.1 ck (yy_f (p_nn rfl) (yy_t rfl ⟨h1, h2, m_isInc_n hR hN.1 hN.2 ck (yy_t rfl (m_thr1 hR (fun z hz => yy_f p_01 (l_noi (by decide) hn hI hS hz))))⟩))
theorem m_cnt95 {y : St} {a v : Int32} {ni : Nat} {post : Int32 → St → Prop} (hy : Rel xR xU xI xW y) (hni : ni ≤ 20) (eni : xI.2 9 = nI ni) (h : a = 3 → wj_M_count_131 xM a post y (fF (sCnt (fun u => ¬ xI.1 1 u = 0)) ni 0 v)) (h0 : ¬ a = 3 → wj_M_count_131 xM a post y v) : wj_M_count_93 xM a post y v := by
  by_cases c : a = 3
  · refine ⟨ni + 1, ?_⟩
    refine p_loop (Wl := fun k b i => wl_M_count_95 xM a post k y b i) (N := ni) (step := sCnt (fun u => ¬ xI.1 1 u = 0)) (I := fun _ _ => True) (post := fun b => wj_M_count_131 xM a post y b) ?_ ?_ (fun _ _ _ _ => trivial) ni 0 v (by omega) trivial (h c)
    · intro k b _ hp
      refine ⟨fun _ => hp, fun q => ?_⟩
      rw [r_I9 hy, eni, p_le (by omega) (by omega)] at q
      omega
    · intro k b i hi _ hw
      refine ⟨fun q => ?_, fun _ => ⟨fun q => absurd c q, fun _ => ?_⟩⟩
      · rw [r_I9 hy, eni, p_le (by omega) (by omega)] at q
        omega
      · rw [p_cl (by omega), r_I1 hy]
        unfold sCnt at hw
        refine ⟨p_in (by omega) (by omega), fun q => ?_, fun q => ?_⟩
        · intro v2 hv2 v3 hv3
          rw [hv2, hv3, p_s, Int32.add_zero]
          rw [if_neg (fun z => z q)] at hw
          exact hw
        · intro v2 hv2 v3 hv3
          rw [hv2, hv3, p_s]
          rw [if_pos q] at hw
          exact hw
  · exact ⟨1, fun _ => h0 c, fun _ => ⟨fun _ => h0 c, fun q => absurd q c⟩⟩
theorem m_cnt57 {y : St} {a : Int32} {n : Nat} {post : Int32 → St → Prop} (hy : Rel xR xU xI xW y) (hn : n ≤ 24) (en : xU.2 10 = nI n) (h : a = 1 → wj_M_count_93 xM a post y (fCnt (fun u => xU.1 5 u = 0) n)) (h0 : ¬ a = 1 → wj_M_count_93 xM a post y 0) : ∃ k9 : Nat, wl_M_count_57 xM a post k9 y 0 0 := by
  by_cases c : a = 1
  · refine ⟨n + 1, ?_⟩
    refine p_loop (Wl := fun k b i => wl_M_count_57 xM a post k y b i) (N := n) (step := sCnt (fun u => xU.1 5 u = 0)) (I := fun _ _ => True) (post := fun b => wj_M_count_93 xM a post y b) ?_ ?_ (fun _ _ _ _ => trivial) n 0 0 (by omega) trivial (h c)
    · intro k b _ hp
      refine ⟨fun _ => hp, fun q => ?_⟩
      rw [r_U10 hy, en, p_le (by omega) (by omega)] at q
      omega
    · intro k b i hi _ hw
      refine ⟨fun q => ?_, fun _ => ⟨fun q => absurd c q, fun _ => ?_⟩⟩
      · rw [r_U10 hy, en, p_le (by omega) (by omega)] at q
        omega
      · rw [p_cl (by omega), r_U5 hy]
        unfold sCnt at hw
        refine ⟨p_in (by omega) (by omega), fun q => ?_, fun q => ?_⟩
        · intro v2 hv2 v3 hv3
          rw [hv2, hv3, p_s, Int32.add_zero]
          rw [if_neg q] at hw
          exact hw
        · intro v2 hv2 v3 hv3
          rw [hv2, hv3, p_s]
          rw [if_pos q] at hw
          exact hw
  · exact ⟨1, fun _ => h0 c, fun _ => ⟨fun _ => h0 c, fun q => absurd q c⟩⟩
theorem p_m10 {a : Int32} (h : ¬ a < 10) : (¬ a < 10 ∧ a ≤ 15) ↔ ∃ g, g < 6 ∧ a - 10 = nI g := by
  have e10 : (10 : Int32).toInt = 10 := by decide
  have e15 : (15 : Int32).toInt = 15 := by decide
  have h2 := Int32.le_iff_toInt_le.mp (Int32.not_lt.mp h)
  have hb : a.toInt ≤ 2147483647 := Int32.toInt_le a
  have es : (a - 10).toInt = a.toInt - 10 := by
    rw [Int32.toInt_sub, e10]
    exact Int.bmod_eq_of_le (by omega) (by omega)
  constructor
  · rintro ⟨-, q⟩
    have q2 := Int32.le_iff_toInt_le.mp q
    refine ⟨(a.toInt - 10).toNat, by omega, Int32.toInt_inj.mp ?_⟩
    rw [es, nI_toInt (by omega)]
    omega
  · rintro ⟨g, hg, e⟩
    refine ⟨h, Int32.le_iff_toInt_le.mpr ?_⟩
    rw [e, nI_toInt (by omega)] at es
    omega
theorem case_16 (hn : nxt rec23 i4) (hg : Good xR xU xI xW xM) (h1 : vp_in (i4 + 1) L) : wc_law_16 xs L rec23 xR xU xI xW xM xo i4 := by
  obtain ⟨n, ni, w, t, hI, hS, hR⟩ := hg
  unfold wc_law_16
  generalize xs (i4 + 1).toNatClampNeg = a
  have hU := hI.1
  have hN := hI.2.1
  have hW := hI.2.2.1
  refine ⟨h1, ?_⟩
  by_cases a0 : a = 0
  · subst a0
    exact yy_t rfl ⟨l_in01, h1, m_in_y (by decide) (yy_f' p_01 (m_thr0 hR (fun z hz => yy_t rfl (yy_t (by decide) (m_cnt57 hz hU.1 hU.2 (fun q => absurd q (by decide)) (fun _ => m_cnt95 hz hN.1 hN.2 (fun q => absurd q (by decide)) (fun _ => yy_t' rfl (l_yesi hn ⟨n, ni, w, 0, hI, hS, hz⟩ (r_R0 hz) (by rw [r_R4 hz]; rfl))))))))) ⟩
  by_cases a1 : a = 1
  · subst a1
    exact yy_f a0 (yy_t rfl (p_countReady hU.2 hU.1 ⟨l_in01, h1, m_in_y (by decide) (yy_f' p_01 (m_thr0 hR (fun z hz => yy_t rfl (yy_t (by decide) (m_cnt57 hz hU.1 hU.2 (fun _ => m_cnt95 hz hN.1 hN.2 (fun q => absurd q (by decide)) (fun _ => yy_f' a0 (yy_f' (by decide) (l_yesi hn ⟨n, ni, w, 0, hI, hS, hz⟩ (r_R0 hz) rfl)))) (fun q => absurd rfl q))))))⟩))
  by_cases a2 : a = 2
  · subst a2
    exact yy_f a0 (yy_f a1 (yy_t rfl ⟨l_in01, h1, m_in_y (by decide) (yy_f' p_01 (m_thr0 hR (fun z hz => yy_t rfl (yy_t (by decide) (m_cnt57 hz hU.1 hU.2 (fun q => absurd q a1) (fun _ => m_cnt95 hz hN.1 hN.2 (fun q => absurd q (by decide)) (fun _ => yy_f' a0 (yy_t' rfl (l_yesi hn ⟨n, ni, w, 0, hI, hS, hz⟩ (r_R0 hz) (by rw [r_W1 hz])))))))))) ⟩))
  by_cases a3 : a = 3
  · subst a3
    exact yy_f a0 (yy_f a1 (yy_f a2 (yy_t rfl (p_countOpen hN.2 hN.1 ⟨l_in01, h1, m_in_y (by decide) (yy_f' p_01 (m_thr0 hR (fun z hz => yy_t rfl (yy_t (by decide) (m_cnt57 hz hU.1 hU.2 (fun q => absurd q a1) (fun _ => m_cnt95 hz hN.1 hN.2 (fun _ => yy_f' a0 (yy_f' a2 (l_yesi hn ⟨n, ni, w, 0, hI, hS, hz⟩ (r_R0 hz) rfl))) (fun q => absurd rfl q)))))))⟩))))
  have c3 : ¬ (¬ a < 0 ∧ a ≤ 3) := by
    intro q
    obtain ⟨k, hk, e⟩ := (p_idx (n := 4) (by omega)).mp (show ¬ a < 0 ∧ a ≤ nI 4 - 1 from q)
    have hk2 : k = 0 ∨ k = 1 ∨ k = 2 ∨ k = 3 := by omega
    rcases hk2 with z | z | z | z
    all_goals subst z
    · exact a0 e
    · exact a1 e
    · exact a2 e
    · exact a3 e
  refine yy_f a0 (yy_f a1 (yy_f a2 (yy_f a3 ?_)))
  by_cases c10 : a < 10
  · exact yy_t c10 (yy_f (p_nn rfl) (yy_t rfl ⟨h1, m_in_n c3 (yy_t' rfl (m_in_n (fun q => q.1 c10) (yy_t' rfl (m_thr1 hR (fun z hz => yy_f p_01 (l_noi (by decide) hn hI hS hz))))))⟩))
  · by_cases cg : ∃ g, g < 6 ∧ a - 10 = nI g
    · have cr := (p_m10 c10).mpr cg
      obtain ⟨g, hg, eg⟩ := cg
      have c9 : ¬ a ≤ 9 := by
        intro q
        have q1 := Int32.le_iff_toInt_le.mp q
        have q2 := Int32.le_iff_toInt_le.mp (Int32.not_lt.mp c10)
        have e9 : (9 : Int32).toInt = 9 := by decide
        have e10 : (10 : Int32).toInt = 10 := by decide
        omega
      have hin : vp_in (a - 10) 6 := by rw [eg]; exact p_in hg (by omega)
      refine yy_f c10 ?_
      rw [eg]
      refine p_good_y hg (yy_f p_01 (yy_t p_01 ⟨hin, l_in01, h1, m_in_n c3 (yy_t' rfl (m_in_y cr (yy_f' p_01 (m_thr0 hR (fun z hz => yy_t rfl (yy_f c9 ⟨hin, l_yesi hn ⟨n, ni, w, 0, hI, hS, hz⟩ (r_R0 hz) ?_⟩))))))⟩))
      rw [r_R3 hz]
      rfl
    · exact yy_f c10 (p_good_n cg (yy_t rfl (yy_f (p_nn rfl) (yy_t rfl ⟨h1, m_in_n c3 (yy_t' rfl (m_in_n (fun q => cg ((p_m10 c10).mp q)) (yy_t' rfl (m_thr1 hR (fun z hz => yy_f p_01 (l_noi (by decide) hn hI hS hz))))))⟩))))
end CASES
