/-! unit, tick -/
section CASES
variable {xs : Nat → Int32} {L : Nat} {rec23 : Rec} {xR xU xI xW xM : St} {xo : Nat → Int64} {i4 : Int32}
theorem l_msetN {n ni w : Nat} {z : St} {post : Int32 → St → Prop} (hI : Inv xR xU xI xW n ni w) (hz : Rel (sF xR 0 0) xU xI xW z) (h : ∀ y, Good (fSet xR xU xI xW n ni w).2.1 (fSet xR xU xI xW n ni w).2.2.1 (fSet xR xU xI xW n ni w).2.2.2.1 (fSet xR xU xI xW n ni w).2.2.2.2 y → y.2 0 = 0 → y.2 3 = nI n → post (fSet xR xU xI xW n ni w).1 y) : wp_M_settle z post := by
  have hI0 : Inv (sF xR 0 0) xU xI xW n ni w := hI
  obtain ⟨w', hI2, hS2, -⟩ := p_setS hI
  refine m_settle hz hI0 (fun y hy => ?_)
  rw [p_ghost] at hy
  rw [p_ghost]
  exact h y ⟨n, ni, w', 0, hI2, hS2, hy⟩ (r_R0 hy) ((r_U10 hy).trans hI2.1.2)
theorem p_unit_i {n ni w : Nat} {a b c d : Int32} (hI : Inv xR xU xI xW n ni w) (h24 : n < 24) (hb : ¬ b < 0 ∧ b ≤ 10000) (hc : ¬ c < 0 ∧ c ≤ 10000) : Inv xR (fWork (fAdd xU n a (xR.2 4)) n b c d) xI xW (n + 1) ni w := by
  obtain ⟨b1, b2, b3, b4, b5, ⟨d1, d2, d3, d4⟩, b7, b8⟩ := hI
  have e0 : (0 : Int32).toInt = 0 := by decide
  have e1 : (10000 : Int32).toInt = 10000 := by decide
  refine ⟨⟨by omega, rfl⟩, b2, b3, b4, b5, ⟨fun v hv => ?_, fun v hv => ?_, fun v hv1 hv2 => ?_, d4⟩, b7, b8⟩
  · show inR (upd (xU.1 1) n b v) 0 10000 ∧ inR (upd (xU.1 2) n c v) 0 10000 ∧ 0 ≤ (upd (xU.1 7) n (xR.2 4) v).toInt ∧ (upd (xU.1 7) n (xR.2 4) v).toInt ≤ (xR.2 4).toInt
    by_cases q : v = n
    · subst q
      rw [pk_us, pk_us, pk_us]
      have x1 := Int32.le_iff_toInt_le.mp (Int32.not_lt.mp hb.1)
      have x2 := Int32.le_iff_toInt_le.mp hb.2
      have x3 := Int32.le_iff_toInt_le.mp (Int32.not_lt.mp hc.1)
      have x4 := Int32.le_iff_toInt_le.mp hc.2
      exact ⟨⟨by omega, by omega⟩, ⟨by omega, by omega⟩, b4.1, Int.le_refl _⟩
    · rw [pk_un q, pk_un q, pk_un q]
      exact d1 v (by omega)
  · show ¬ upd (xU.1 5) n 0 v = 1 → upd (xU.1 6) n (-1) v = -1
    by_cases q : v = n
    · subst q
      rw [pk_us, pk_us]
      exact fun _ => rfl
    · rw [pk_un q, pk_un q]
      exact d2 v (by omega)
  · show upd (xU.1 5) n 0 v = 0
    rw [pk_un (by omega)]
    exact d3 v (by omega) hv2
theorem m_unit_r {n ni w : Nat} {a b c d : Int32} {z : St} (hI : Inv xR xU xI xW n ni w) (h24 : n < 24) (hz : Rel (sF xR 0 0) xU xI xW z) : Rel (sF xR 0 0) (fWork (fAdd xU n a (xR.2 4)) n b c d) xI xW (sF (sA (sA (sA (sA (sA (sA z 4 (z.2 3).toNatClampNeg a) 5 (z.2 3).toNatClampNeg b) 6 (z.2 3).toNatClampNeg c) 7 (z.2 3).toNatClampNeg d) 9 (z.2 3).toNatClampNeg (-1)) 10 (z.2 3).toNatClampNeg (z.2 1)) 3 (z.2 3 + 1)) := by
  have ez : z.2 3 = nI n := (r_U10 hz).trans hI.1.2
  have ec : (nI n).toNatClampNeg = n := p_cl (by omega)
  have e1 : z.2 1 = xR.2 4 := (r_R4 hz).trans rfl
  rw [ez, ec, p_s, e1]
  have e5 : upd (xU.1 5) n 0 = xU.1 5 := by
    funext v
    by_cases q : v = n
    · subst q; rw [pk_us]; exact (hI.2.2.2.2.2.1.2.2.1 v (Nat.le_refl v) h24).symm
    · rw [pk_un q]
  obtain ⟨g0, g1, g2, g3, g4, g5, g6, g7, g8, g9, g10, g11, g12, g13, g14, g15, g16, g17, g18, g19, g20, g21, g22, g23, g24, g25, g26⟩ := s_U10 (s_U7 (s_U6 (s_U3 (s_U2 (s_U1 (s_U0 hz n a) n b) n c) n d) n (-1)) n (xR.2 4)) (nI (n + 1))
  exact ⟨g0, g1, g2, g3, g4.trans e5.symm, g5, g6, g7, g8, g9, g10, g11, g12, g13, g14, g15, g16, g17, g18, g19, g20, g21, g22, g23, g24, g25, g26⟩
theorem case_0 (hn : nxt rec23 i4) (hg : Good xR xU xI xW xM) (h1 : vp_in (i4 + 1) L) (h2 : vp_in (i4 + 2) L) (h3 : vp_in (i4 + 3) L) (h4 : vp_in (i4 + 4) L) : wc_law_0 xs L rec23 xR xU xI xW xM xo i4 := by
  obtain ⟨n, ni, w, t, hI, hS, hR⟩ := hg
  unfold wc_law_0
  generalize xs (i4 + 1).toNatClampNeg = a
  generalize xs (i4 + 2).toNatClampNeg = b
  generalize xs (i4 + 3).toNatClampNeg = c
  generalize xs (i4 + 4).toNatClampNeg = d
  have hU := hI.1
  refine ⟨h1, h2, h3, h4, ?_⟩
  have hM1 : ∀ {post : Int32 → St → Prop}, (∀ z, Rel (sF xR 0 1) xU xI xW z → post 0 z) → wj_M_unit_44 xM a b c d post xM := fun h => ⟨fun _ => m_thr1 hR (fun z hz => yy_f p_01 (h z hz)), fun _ => m_thr1 hR (fun z hz => yy_f p_01 (h z hz))⟩
  by_cases c1 : ¬ a < 0 ∧ a ≤ 99999
  · by_cases c2 : ¬ b < 0 ∧ b ≤ 10000
    · by_cases c3 : ¬ c < 0 ∧ c ≤ 10000
      · by_cases c4 : ¬ d < 0 ∧ d ≤ 255
        · refine yy_t c1 (yy_t c2 (yy_t c3 (yy_t c4 ?_)))
          have goM : ∀ {post : Int32 → St → Prop}, wj_M_unit_49 xM a b c d post xM 0 → wp_M_unit xM a b c d post := fun h => m_in_y c1 (yy_f p_01 (m_in_y c2 (yy_f p_01 (m_in_y c3 (yy_f p_01 (m_in_y c4 (yy_f' p_01 h)))))))
          have eM : xM.2 3 = nI n := (r_U10 hR).trans hU.2
          by_cases h24 : n = 24
          · have x1 : (24 : Int32) ≤ xU.2 10 := by rw [hU.2, h24]; decide
            have x2 : xM.2 3 = 24 := by rw [eM, h24]; rfl
            exact yy_t x1 (yy_f (p_nn rfl) (yy_f neDB (yy_t rfl ⟨h1, h2, h3, h4, goM (yy_t' x2 (m_thr2 hR (fun z hz => yy_f p_01 (l_noi (by decide) hn hI hS hz))))⟩)))
          · have x1 : ¬ (24 : Int32) ≤ xU.2 10 := by
              rw [hU.2, show (24 : Int32) = nI 24 from rfl, p_le (by omega) (by omega)]
              omega
            have x2 : ¬ xM.2 3 = 24 := by
              rw [eM]
              intro q
              exact h24 (p_same (by omega) (by omega) (q.trans (show (24 : Int32) = nI 24 from rfl)))
            have hlt : n < 24 := by omega
            have hI2 : Inv xR (fWork (fAdd xU n a (xR.2 4)) n b c d) xI xW (n + 1) ni w := p_unit_i hI hlt c2 c3
            refine yy_f x1 (yy_t p_01 (p_addUnit hU.2 hlt (p_setWork hlt (l_pset hI2 ⟨l_in01, h1, h2, h3, h4, goM (yy_f' x2 (m_thr0 hR (fun z hz => yy_t rfl ?_)))⟩))))
            have ez : z.2 3 = nI n := (r_U10 hz).trans hU.2
            have hin : vp_in (z.2 3) 24 := by rw [ez]; exact p_in hlt (by omega)
            refine ⟨hin, hin, hin, hin, hin, hin, ?_⟩
            refine l_msetN hI2 (m_unit_r hI hlt hz) (fun y hg e0 e3 => l_yesi hn hg e0 ?_)
            rw [e3]
            exact (nI_pred n).symm
        · exact yy_t c1 (yy_t c2 (yy_t c3 (yy_f c4 (yy_t rfl ⟨h1, h2, h3, h4, m_in_y c1 (yy_f p_01 (m_in_y c2 (yy_f p_01 (m_in_y c3 (yy_f p_01 (m_in_n c4 (yy_t' rfl (hM1 (fun z hz => l_noi (by decide) hn hI hS hz)))))))))⟩))))
      · exact yy_t c1 (yy_t c2 (yy_f c3 (yy_t rfl ⟨h1, h2, h3, h4, m_in_y c1 (yy_f p_01 (m_in_y c2 (yy_f p_01 (m_in_n c3 (yy_t rfl (hM1 (fun z hz => l_noi (by decide) hn hI hS hz)))))))⟩)))
    · exact yy_t c1 (yy_f c2 (yy_t rfl ⟨h1, h2, h3, h4, m_in_y c1 (yy_f p_01 (m_in_n c2 (yy_t rfl (hM1 (fun z hz => l_noi (by decide) hn hI hS hz)))))⟩))
  · exact yy_f c1 (yy_t rfl ⟨h1, h2, h3, h4, m_in_n c1 (yy_t rfl (hM1 (fun z hz => l_noi (by decide) hn hI hS hz)))⟩)
theorem case_13 (hn : nxt rec23 i4) (hg : Good xR xU xI xW xM) (h1 : vp_in (i4 + 1) L) : wc_law_13 xs L rec23 xR xU xI xW xM xo i4 := by
  obtain ⟨n, ni, w, t, hI, hS, hR⟩ := hg
  unfold wc_law_13
  generalize xs (i4 + 1).toNatClampNeg = a
  refine ⟨h1, ?_⟩
  have e1 : (1 : Int32).toInt = 1 := by decide
  have e5 : (5000 : Int32).toInt = 5000 := by decide
  have e9 : (999999 : Int32).toInt = 999999 := by decide
  by_cases c1 : ¬ a < 1 ∧ a ≤ 5000
  · obtain ⟨m, hm, rfl⟩ : ∃ m : Nat, m ≤ 5000 ∧ a = nI m := by
      have x1 := Int32.le_iff_toInt_le.mp (Int32.not_lt.mp c1.1)
      have x2 := Int32.le_iff_toInt_le.mp c1.2
      refine ⟨a.toInt.toNat, by omega, Int32.toInt_inj.mp ?_⟩
      rw [nI_toInt (by omega)]
      omega
    have hsec := hI.2.2.2.1
    have hs1 := hsec.1
    have hs2 := hsec.2
    have em : (nI m).toInt = m := nI_toInt (by omega)
    have ea : (xR.2 4 + nI m).toInt = (xR.2 4).toInt + m := p_t hsec hm
    have es : ((999999 : Int32) - xR.2 4).toInt = 999999 - (xR.2 4).toInt := by
      have q := p_sub_toInt (x := (999999 : Int32)) (y := xR.2 4) (b := 999999) ⟨by omega, by omega⟩ hsec (by omega)
      omega
    have mT : xM.2 1 + nI m = xR.2 4 + nI m := by rw [r_R4 hR]; rfl
    by_cases c2 : (xR.2 4).toInt + m ≤ 999999
    · have r2 : ¬ nI m < 1 ∧ nI m ≤ (999999 : Int32) - xR.2 4 := ⟨c1.1, Int32.le_iff_toInt_le.mpr (by omega)⟩
      have q2 : xM.2 1 + nI m ≤ 999999 := by rw [mT]; exact Int32.le_iff_toInt_le.mpr (by omega)
      refine yy_t c1 (yy_t r2 (fun v hv => ⟨m + 1, ?_⟩))
      subst hv
      refine p_tick (n := n) (ni := ni) (secs := m) hm (by omega) (m + 1) m xR xU xI xW w 0 0 (by omega) (by omega) ea hI hS ⟨l_in01, h1, m_in_y c1 (yy_f p_01 (yy_t q2 (m_thr0 hR (fun z hz => yy_t rfl ⟨m + 1, ?_⟩))))⟩
      have hI0 : Inv (sF xR 0 0) xU xI xW n ni w := hI
      refine m_tick (n := n) (ni := ni) hm m z (sF xR 0 0) xU xI xW w 0 0 (by omega) c2 hz hI0 (fun y hy => ?_)
      have eT : fTk n ni m ((0 : Int32), ((sF xR 0 0, xU, xI, xW) : S4)) = ((fTk n ni m ((0 : Int32), ((xR, xU, xI, xW) : S4))).1, (sF (fTk n ni m ((0 : Int32), ((xR, xU, xI, xW) : S4))).2.1 0 0, (fTk n ni m ((0 : Int32), ((xR, xU, xI, xW) : S4))).2.2)) := p_gTk m 0 (xR, xU, xI, xW)
      rw [eT] at hy
      rw [eT]
      obtain ⟨w', hI2, hS2⟩ := p_tkS m xR xU xI xW w 0 c2 hI hS
      exact l_yesi hn ⟨n, ni, w', 0, hI2, hS2, hy⟩ (r_R0 hy) rfl
    · have r2 : ¬ (¬ nI m < 1 ∧ nI m ≤ (999999 : Int32) - xR.2 4) := fun q => c2 (by
        have z := Int32.le_iff_toInt_le.mp q.2
        omega)
      have q2 : ¬ xM.2 1 + nI m ≤ 999999 := by
        rw [mT]
        intro q
        have z := Int32.le_iff_toInt_le.mp q
        omega
      exact yy_t c1 (yy_f r2 (yy_t rfl ⟨h1, m_in_y c1 (yy_f p_01 (yy_f q2 (m_thr1 hR (fun z hz => yy_f p_01 (l_noi (by decide) hn hI hS hz)))))⟩))
  · exact yy_f c1 (yy_t rfl ⟨h1, m_in_n c1 (yy_t rfl (m_thr1 hR (fun z hz => yy_f p_01 (l_noi (by decide) hn hI hS hz))))⟩)
end CASES
