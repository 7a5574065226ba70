/-! check, inside, report, watch, use, deliver -/
section CASES
variable {xs : Nat → Int32} {L : Nat} {rec23 : Rec} {xR xU xI xW xM : St} {xo : Nat → Int64} {i4 : Int32}
theorem case_9 (hn : nxt rec23 i4) (hg : Good xR xU xI xW xM) (h1 : vp_in (i4 + 1) L) (h2 : vp_in (i4 + 2) L) : wc_law_9 xs L rec23 xR xU xI xW xM xo i4 := by
  obtain ⟨n, ni, w, t, hI, hS, hR⟩ := hg
  unfold wc_law_9
  generalize xs (i4 + 1).toNatClampNeg = a
  generalize xs (i4 + 2).toNatClampNeg = b
  have hU := hI.1
  refine ⟨h1, h2, ?_⟩
  by_cases ck : ∃ u, u < n ∧ a = nI u
  · obtain ⟨u, hu, rfl⟩ := ck
    have hin := p_in (show u < 24 by omega) (by omega)
    have mU : xM.1 8 (nI u).toNatClampNeg = xU.1 5 (nI u).toNatClampNeg := by rw [r_U5 hR]
    by_cases c : ¬ b < 0 ∧ b ≤ 255
    · by_cases c1 : xU.1 5 (nI u).toNatClampNeg = 5
      · have hI2 : Inv xR (sA xU 4 (nI u).toNatClampNeg (xU.1 4 (nI u).toNatClampNeg ||| b)) xI xW n ni w := hI
        refine p_hasU_y hU.2 hU.1 hu (yy_t p_01 (yy_t c ⟨hin, yy_t' c1 (yy_t p_01 ⟨hin, hin, l_pset hI2 ⟨h1, h2, m_isUnit_y hR hU.1 hU.2 hu (yy_f' p_01 (m_in_y c (yy_f' p_01 (yy_t' rfl ⟨hin, yy_t (mU.trans c1) (m_thr0 hR (fun z hz => yy_t rfl ⟨hin, hin, ?_⟩))⟩))))⟩⟩)⟩))
        rw [r_U4 hz]
        exact l_mset hI2 (s_U4 hz _ _) (fun z' hg e0 => l_yes hn hg e0)
      · exact p_hasU_y hU.2 hU.1 hu (yy_t p_01 (yy_t c ⟨hin, yy_f' c1 (yy_f (p_nn rfl) (yy_f neCA (yy_f neCB (yy_t rfl ⟨h1, h2, m_isUnit_y hR hU.1 hU.2 hu (yy_f' p_01 (m_in_y c (yy_f' p_01 (yy_t' rfl ⟨hin, yy_f (fun q => c1 (mU.symm.trans q)) (m_thr3 hR (fun z hz => yy_f p_01 (l_no hn hI hS hz)))⟩))))⟩))))⟩))
    · refine p_hasU_y hU.2 hU.1 hu (yy_t p_01 (yy_f c (yy_f neBA (yy_t rfl ⟨h1, h2, m_isUnit_y hR hU.1 hU.2 hu (yy_f' p_01 (m_in_n c (yy_t' rfl (yy_t' rfl ⟨hin, ?_, ?_⟩))))⟩))))
      · exact fun _ => m_thr2 hR (fun z hz => yy_f p_01 (l_no hn hI hS hz))
      · exact fun _ => m_thr2 hR (fun z hz => yy_f p_01 (l_no hn hI hS hz))
  · refine p_hasU_n hU.2 hU.1 ck (yy_f (p_nn rfl) (yy_t rfl ⟨h1, h2, m_isUnit_n hR hU.1 hU.2 ck (yy_t' rfl ?_)⟩))
    exact m_in (fun _ => yy_f' p_01 (yy_f' p_01 (m_thr1 hR (fun z hz => yy_f p_01 (l_no hn hI hS hz))))) (fun _ => yy_t' rfl (yy_f' p_01 (m_thr1 hR (fun z hz => yy_f p_01 (l_no hn hI hS hz)))))
theorem case_10 (hn : nxt rec23 i4) (hg : Good xR xU xI xW xM) (h1 : vp_in (i4 + 1) L) (h2 : vp_in (i4 + 2) L) : wc_law_10 xs L rec23 xR xU xI xW xM xo i4 := by
  obtain ⟨n, ni, w, t, hI, hS, hR⟩ := hg
  unfold wc_law_10
  generalize xs (i4 + 1).toNatClampNeg = a
  generalize xs (i4 + 2).toNatClampNeg = b
  have hN := hI.2.1
  refine ⟨h1, h2, ?_⟩
  by_cases ck : ∃ u, u < ni ∧ a = nI u
  · obtain ⟨u, hu, rfl⟩ := ck
    have hin := p_in (show u < 20 by omega) (by omega)
    have eu : (nI u).toNatClampNeg = u := p_cl (by omega)
    by_cases c : ¬ b < 0 ∧ b ≤ 1000
    · by_cases c1 : xI.1 1 u = 0
      · exact p_hasI_y hN.2 hN.1 hu (yy_t p_01 (yy_t c ⟨hin, yy_f (p_nn (by rw [eu]; exact c1)) (yy_f neCA (yy_f neCB (yy_t rfl ⟨h1, h2, m_isInc_y hR hN.1 hN.2 hu (yy_f' p_01 (m_in_y c (yy_f' p_01 (m_shut_c hR hN.1 hN.2 hu c1 (m_thr3 hR (fun z hz => yy_f p_01 (l_no hn hI hS hz)))))))⟩)))⟩))
      · have hI2 : Inv xR xU (sA xI 4 (nI u).toNatClampNeg b) xW n ni w := hI
        exact p_hasI_y hN.2 hN.1 hu (yy_t p_01 (yy_t c ⟨hin, yy_t (by rw [eu]; exact c1) ⟨hin, l_pset hI2 ⟨h1, h2, m_isInc_y hR hN.1 hN.2 hu (yy_f' p_01 (m_in_y c (yy_f' p_01 (m_shut_o hR hN.1 hN.2 hu c1 (m_thr0 hR (fun z hz => yy_t rfl ⟨hin, l_mset hI2 (s_I4 hz _ _) (fun z' hg e0 => l_yes hn hg e0)⟩))))))⟩⟩⟩))
    · refine p_hasI_y hN.2 hN.1 hu (yy_t p_01 (yy_f c (yy_f neBA (yy_t rfl ⟨h1, h2, m_isInc_y hR hN.1 hN.2 hu (yy_f' p_01 (m_in_n c (yy_t' rfl ?_)))⟩))))
      exact m_isShut hR hN.1 hN.2 (fun _ _ _ _ => m_thr2 hR (fun z hz => yy_f p_01 (l_no hn hI hS hz))) (fun _ _ _ _ => m_thr2 hR (fun z hz => yy_f p_01 (l_no hn hI hS hz))) (fun _ => m_thr2 hR (fun z hz => yy_f p_01 (l_no hn hI hS hz)))
  · refine p_hasI_n hN.2 hN.1 ck (yy_f (p_nn rfl) (yy_t rfl ⟨h1, h2, m_isInc_n hR hN.1 hN.2 ck (yy_t' rfl ?_)⟩))
    exact m_in (fun _ => yy_f' p_01 (m_shut_n hR hN.1 hN.2 ck (m_thr1 hR (fun z hz => yy_f p_01 (l_no hn hI hS hz))))) (fun _ => yy_t' rfl (m_shut_n hR hN.1 hN.2 ck (m_thr1 hR (fun z hz => yy_f p_01 (l_no hn hI hS hz)))))
theorem case_12 (hn : nxt rec23 i4) (hg : Good xR xU xI xW xM) (h1 : vp_in (i4 + 1) L) (h2 : vp_in (i4 + 2) L) : wc_law_12 xs L rec23 xR xU xI xW xM xo i4 := by
  obtain ⟨n, ni, w, t, hI, hS, hR⟩ := hg
  unfold wc_law_12
  generalize xs (i4 + 1).toNatClampNeg = a
  generalize xs (i4 + 2).toNatClampNeg = b
  have hN := hI.2.1
  refine ⟨h1, h2, ?_⟩
  by_cases ck : ∃ u, u < ni ∧ a = nI u
  · obtain ⟨u, hu, rfl⟩ := ck
    have hin := p_in (show u < 20 by omega) (by omega)
    have eu : (nI u).toNatClampNeg = u := p_cl (by omega)
    by_cases c : ¬ b < -1 ∧ b ≤ 999999
    · by_cases c1 : xI.1 1 u = 0
      · exact p_hasI_y hN.2 hN.1 hu (yy_t p_01 (yy_t c ⟨hin, yy_f (p_nn (by rw [eu]; exact c1)) (yy_f neCA (yy_f neCB (yy_t rfl ⟨h1, h2, m_isInc_y hR hN.1 hN.2 hu (yy_f' p_01 (m_in_y c (yy_f' p_01 (m_shut_c hR hN.1 hN.2 hu c1 (m_thr3 hR (fun z hz => yy_f p_01 (l_no hn hI hS hz)))))))⟩)))⟩))
      · have hI2 : Inv xR xU (sA xI 5 (nI u).toNatClampNeg b) xW n ni w := by
          rw [eu]
          obtain ⟨b1, b2, b3, b4, b5, b6, b7, ⟨d1, d2⟩⟩ := hI
          refine ⟨b1, b2, b3, b4, b5, b6, b7, ⟨fun i hi => ?_, d2⟩⟩
          obtain ⟨e1, e2, e3⟩ := d1 i hi
          refine ⟨e1, ?_, e3⟩
          show inR (upd (xI.1 5) u b i) (-1) 999999
          by_cases q : i = u
          · subst q
            rw [pk_us]
            exact ⟨Int32.le_iff_toInt_le.mp (Int32.not_lt.mp c.1), Int32.le_iff_toInt_le.mp c.2⟩
          · rw [pk_un q]; exact e2
        exact p_hasI_y hN.2 hN.1 hu (yy_t p_01 (yy_t c ⟨hin, yy_t (by rw [eu]; exact c1) ⟨hin, l_pset hI2 ⟨h1, h2, m_isInc_y hR hN.1 hN.2 hu (yy_f' p_01 (m_in_y c (yy_f' p_01 (m_shut_o hR hN.1 hN.2 hu c1 (m_thr0 hR (fun z hz => yy_t rfl ⟨hin, l_mset hI2 (s_I5 hz _ _) (fun z' hg e0 => l_yes hn hg e0)⟩))))))⟩⟩⟩))
    · refine p_hasI_y hN.2 hN.1 hu (yy_t p_01 (yy_f c (yy_f neBA (yy_t rfl ⟨h1, h2, m_isInc_y hR hN.1 hN.2 hu (yy_f' p_01 (m_in_n c (yy_t' rfl ?_)))⟩))))
      exact m_isShut hR hN.1 hN.2 (fun _ _ _ _ => m_thr2 hR (fun z hz => yy_f p_01 (l_no hn hI hS hz))) (fun _ _ _ _ => m_thr2 hR (fun z hz => yy_f p_01 (l_no hn hI hS hz))) (fun _ => m_thr2 hR (fun z hz => yy_f p_01 (l_no hn hI hS hz)))
  · refine p_hasI_n hN.2 hN.1 ck (yy_f (p_nn rfl) (yy_t rfl ⟨h1, h2, m_isInc_n hR hN.1 hN.2 ck (yy_t' rfl ?_)⟩))
    exact m_in (fun _ => yy_f' p_01 (m_shut_n hR hN.1 hN.2 ck (m_thr1 hR (fun z hz => yy_f p_01 (l_no hn hI hS hz))))) (fun _ => yy_t' rfl (m_shut_n hR hN.1 hN.2 ck (m_thr1 hR (fun z hz => yy_f p_01 (l_no hn hI hS hz)))))
theorem p_or8 {r k : Nat} (hr : r < 256) (hk : k < 8) : ∃ q, q < 256 ∧ nI r ||| ((1 : Int32) <<< (nI k &&& 31)) = nI q := by
  have e1 : ∀ k, k < 8 → (1 : Int32) <<< (nI k &&& 31) = nI (2 ^ k) := by decide
  have hk2 : 2 ^ k < 256 := by
    have := Nat.pow_lt_pow_right (a := 2) (by omega) hk
    omega
  refine ⟨r ||| 2 ^ k, Nat.or_lt_two_pow (n := 8) hr hk2, ?_⟩
  rw [e1 k hk]
  refine Int32.toBitVec_inj.mp ?_
  rw [Int32.toBitVec_or]
  refine BitVec.eq_of_toNat_eq ?_
  rw [BitVec.toNat_or]
  have tn : ∀ q, q < 256 → (nI q).toBitVec.toNat = q := by
    intro q hq
    show (BitVec.ofNat 32 q).toNat = q
    rw [BitVec.toNat_ofNat]
    exact Nat.mod_eq_of_lt (by omega)
  rw [tn r hr, tn _ hk2, tn _ (Nat.or_lt_two_pow (n := 8) hr hk2)]
theorem case_11 (hn : nxt rec23 i4) (hg : Good xR xU xI xW xM) (h1 : vp_in (i4 + 1) L) (h2 : vp_in (i4 + 2) L) : wc_law_11 xs L rec23 xR xU xI xW xM xo i4 := by
  obtain ⟨n, ni, w, t, hI, hS, hR⟩ := hg
  unfold wc_law_11
  generalize xs (i4 + 1).toNatClampNeg = a
  generalize xs (i4 + 2).toNatClampNeg = b
  have hN := hI.2.1
  refine ⟨h1, h2, ?_⟩
  by_cases ck : ∃ u, u < ni ∧ a = nI u
  · obtain ⟨u, hu, rfl⟩ := ck
    have hin := p_in (show u < 20 by omega) (by omega)
    have eu : (nI u).toNatClampNeg = u := p_cl (by omega)
    have mI : xM.1 17 (nI u).toNatClampNeg = xI.1 1 (nI u).toNatClampNeg := by rw [r_I1 hR]
    by_cases c : ¬ b < 0 ∧ b ≤ 7
    · have c7 : ¬ (7 : Int32) < b := Int32.not_lt.mpr c.2
      by_cases c1 : xI.1 1 (nI u).toNatClampNeg = 0
      · exact p_hasI_y hN.2 hN.1 hu (yy_f p_01 (yy_f c.1 (yy_f c7 (yy_t p_01 ⟨hin, yy_f (p_nn c1) (yy_f neCA (yy_t rfl ⟨h1, h2, m_isInc_y hR hN.1 hN.2 hu (yy_f p_01 (m_in_y c (yy_f' p_01 (yy_t' rfl ⟨hin, yy_t' (mI.trans c1) (m_thr2 hR (fun z hz => yy_f p_01 (l_no hn hI hS hz)))⟩))))⟩))⟩))))
      · have hI2 : Inv xR xU (sA xI 3 (nI u).toNatClampNeg (xI.1 3 (nI u).toNatClampNeg ||| ((1 : Int32) <<< (b &&& 31)))) xW n ni w := by
          rw [eu]
          obtain ⟨k, hk, rfl⟩ := (p_idx (n := 8) (by omega)).mp (show ¬ b < 0 ∧ b ≤ nI 8 - 1 from c)
          obtain ⟨b1, b2, b3, b4, b5, b6, b7, ⟨d1, d2, d3⟩⟩ := hI
          refine ⟨b1, b2, b3, b4, b5, b6, b7, ⟨d1, fun i hi => ?_, d3⟩⟩
          show ∃ r, r < 256 ∧ upd (xI.1 3) u (xI.1 3 u ||| ((1 : Int32) <<< (nI k &&& 31))) i = nI r
          by_cases q : i = u
          · subst q
            rw [pk_us]
            obtain ⟨r, hr, er⟩ := d2 i hi
            rw [er]
            exact p_or8 hr hk
          · rw [pk_un q]; exact d2 i hi
        refine p_hasI_y hN.2 hN.1 hu (yy_f p_01 (yy_f c.1 (yy_f c7 (yy_t p_01 ⟨hin, yy_t c1 ⟨hin, hin, l_pset hI2 ⟨h1, h2, m_isInc_y hR hN.1 hN.2 hu (yy_f p_01 (m_in_y c (yy_f' p_01 (yy_t' rfl ⟨hin, yy_f' (fun q => c1 (mI.symm.trans q)) (m_thr0 hR (fun z hz => yy_t rfl ⟨hin, hin, ?_⟩))⟩))))⟩⟩⟩))))
        rw [r_I3 hz]
        exact l_mset hI2 (s_I3 hz _ _) (fun z' hg e0 => l_yes hn hg e0)
    · have hM : wp_M_report xM (nI u) b (fun u807 => (wp_M_thrown u807 (fun r811 _ => ((r811 = 1 → (∀ v4_1120 : Int32, v4_1120 = i4 + 5 → (rec23 xR xU xI xW u807 xo v4_1120))) ∧ (¬ r811 = 1 → (False)))))) := m_isInc_y hR hN.1 hN.2 hu (yy_f p_01 (m_in_n c (yy_t' rfl (yy_f' p_01 (m_thr1 hR (fun z hz => yy_f p_01 (l_no hn hI hS hz)))))))
      refine p_hasI_y hN.2 hN.1 hu (yy_f p_01 ?_)
      by_cases c0 : b < 0
      · exact yy_t c0 (yy_f (p_nn rfl) (yy_t rfl ⟨h1, h2, hM⟩))
      · have c7 : (7 : Int32) < b := Int32.not_le.mp (fun q => c ⟨c0, q⟩)
        exact yy_f c0 (yy_t c7 (yy_f (p_nn rfl) (yy_t rfl ⟨h1, h2, hM⟩)))
  · exact p_hasI_n hN.2 hN.1 ck (yy_t rfl (yy_f (p_nn rfl) (yy_t rfl ⟨h1, h2, m_isInc_n hR hN.1 hN.2 ck (yy_t rfl (yy_f' p_01 (m_thr1 hR (fun z hz => yy_f p_01 (l_no hn hI hS hz)))))⟩)))
end CASES
