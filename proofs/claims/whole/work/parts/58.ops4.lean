/-! use, deliver, unitAt -/
section CASES
variable {xs : Nat → Int32} {L : Nat} {rec23 : Rec} {xR xU xI xW xM : St} {xo : Nat → Int64} {i4 : Int32}
theorem p_gN12 {r x : St} {u : Nat} (e : x.1 5 u = 1 ∨ x.1 5 u = 2) : gN r x u := by
  rcases e with e | e
  all_goals
    refine ⟨fun q => ?_, fun q => ?_, fun q => ?_⟩
    · have z := q.1; rw [e] at z; exact absurd z (by decide)
    · have z := q.1; rw [e] at z; exact absurd z (by decide)
    · have z := q.1; rw [e] at z; exact absurd z (by decide)
theorem l_use {n ni w u g t : Nat} {X c : Int32} {z : St} (hI : Inv xR xU xI xW n ni w) (hS : Settled xR xU xI xW n ni w) (hu : u < n) (hg : g < 6) (hst : xU.1 5 u = 1 ∨ xU.1 5 u = 2) (hX : X = xU.1 9 (u * 6 + g) + c) (hc : ¬ c < 1 ∧ c ≤ 1000) (hl : X ≤ 100000) (hz : Rel (sF xR 0 0) xU xI xW z) : Good xR (sA xU 9 (u * 6 + g) X) xI xW (sA z 13 (u * 6 + g) X) := by
  obtain ⟨s1, s2, s3⟩ := hS
  have hIb := hI
  obtain ⟨b1, b2, b3, b4, b5, ⟨d1, d2, d3, d4⟩, b7, b8⟩ := hI
  refine ⟨n, ni, w, 0, ⟨b1, b2, b3, b4, b5, ⟨d1, d2, d3, fun k hk => ?_⟩, b7, b8⟩, ⟨fun v hv => ?_, ?_, s3⟩, s_U9 hz _ _⟩
  · show inR (upd (xU.1 9) (u * 6 + g) X k) 0 100000
    by_cases q : k = u * 6 + g
    · subst q
      rw [pk_us]
      have ho := d4 (u * 6 + g) hk
      have hc1 : (1 : Int32).toInt ≤ c.toInt := Int32.le_iff_toInt_le.mp (Int32.not_lt.mp hc.1)
      have hc2 : c.toInt ≤ (1000 : Int32).toInt := Int32.le_iff_toInt_le.mp hc.2
      have e1 : (1 : Int32).toInt = 1 := by decide
      have e2 : (1000 : Int32).toInt = 1000 := by decide
      have eX : X.toInt = (xU.1 9 (u * 6 + g)).toInt + c.toInt := by
        rw [hX]
        exact p_add_toInt (a := 0) (b := 100000) ho ⟨by omega, by omega⟩ (by omega) (by omega)
      have hl2 : X.toInt ≤ (100000 : Int32).toInt := Int32.le_iff_toInt_le.mp hl
      have e3 : (100000 : Int32).toInt = 100000 := by decide
      have := ho.1
      exact ⟨by omega, by omega⟩
    · rw [pk_un q]; exact d4 k hk
  · by_cases q : v = u
    · subst q
      exact p_gN12 hst
    · exact (s1 v hv).keep ⟨fun k hk => p_sAk (by omega), fun g' hg' => p_sAn (by omega)⟩ leF.rf rfl
  · rcases s2 with q | q
    · exact Or.inl q
    · exact Or.inr (p_nearNone (x := xU) b1.1 (fun _ _ => rfl) q)
theorem case_7 (hn : nxt rec23 i4) (hg : Good xR xU xI xW xM) (h1 : vp_in (i4 + 1) L) (h2 : vp_in (i4 + 2) L) (h3 : vp_in (i4 + 3) L) : wc_law_7 xs L rec23 xR xU xI xW xM xo i4 := by
  obtain ⟨n, ni, w, t, hI, hS, hR⟩ := hg
  unfold wc_law_7
  generalize xs (i4 + 1).toNatClampNeg = a
  generalize xs (i4 + 2).toNatClampNeg = b
  generalize xs (i4 + 3).toNatClampNeg = c
  have hU := hI.1
  refine ⟨h1, h2, h3, ?_⟩
  by_cases ck : ∃ u, u < n ∧ a = nI u
  · obtain ⟨u, hu, rfl⟩ := ck
    have hin := p_in (show u < 24 by omega) (by omega)
    have mU : xM.1 8 (nI u).toNatClampNeg = xU.1 5 (nI u).toNatClampNeg := by rw [r_U5 hR]
    by_cases cg : ∃ g, g < 6 ∧ b = nI g
    · obtain ⟨g, hg, rfl⟩ := cg
      have e6 : (6 : Int32) * nI u + nI g = nI u * (6 : Int32) + nI g := by rw [p_6, p_6']
      have e66 : nI u * (6 : Int32) + nI g = nI (u * 6 + g) := p_6
      have ecl : (nI u * (6 : Int32) + nI g).toNatClampNeg = u * 6 + g := by rw [e66]; exact p_cl (by omega)
      have hin6 : vp_in (nI u * (6 : Int32) + nI g) 144 := by rw [e66]; exact p_in (by omega) (by omega)
      have hin6' : vp_in ((6 : Int32) * nI u + nI g) 144 := by rw [e6]; exact hin6
      by_cases cr : ¬ c < 1 ∧ c ≤ 1000
      · obtain ⟨X, hX⟩ : ∃ X, X = xU.1 9 (nI u * (6 : Int32) + nI g).toNatClampNeg + c := ⟨_, rfl⟩
        have mX : xM.1 13 ((6 : Int32) * nI u + nI g).toNatClampNeg + c = X := by rw [hX, r_U9 hR, e6]
        by_cases cs : xU.1 5 (nI u).toNatClampNeg = 1 ∨ xU.1 5 (nI u).toNatClampNeg = 2
        · have goR : ∀ {post : Int32 → St → Prop} {postX : String → St → Prop}, wj_R_use_65 xR xU xI xW (nI u) (nI g) c post postX xU 1 → wp_R_use xR xU xI xW (nI u) (nI g) c post postX := by
            intro post postX hw
            refine p_hasU_y hU.2 hU.1 hu (yy_f p_01 (p_good_y hg (yy_f p_01 (yy_t p_01 (yy_t cr ⟨hin, fun _ => hw, fun q => ⟨hin, yy_t' ?_ hw⟩⟩)))))
            rcases cs with z | z
            · exact absurd z q
            · exact z
          have goM : ∀ {post : Int32 → St → Prop}, wj_M_use_70 xM (nI u) (nI g) c post xM 0 0 0 → wp_M_use xM (nI u) (nI g) c post := by
            intro post hw
            refine m_isUnit_y hR hU.1 hU.2 hu (yy_f p_01 (m_good_y hg (yy_f' p_01 (m_in_y cr (yy_f' p_01 (yy_t' rfl ⟨hin, fun _ => hw, fun q => ⟨hin, yy_t ?_ hw⟩⟩))))))
            rw [mU] at q ⊢
            rcases cs with z | z
            · exact absurd z q
            · exact z
          by_cases cb : (100000 : Int32) < X
          · refine goR (yy_t p_01 ⟨hin6, fun v hv => ?_⟩)
            have ev : v = X := hv.trans hX.symm
            subst ev
            exact yy_t cb (yy_f (p_nn rfl) (yy_f neDA (yy_f neDB (yy_f neDC (yy_t rfl ⟨h1, h2, h3, goM (yy_t' rfl (yy_t' rfl ⟨hin6', yy_f (fun q => Int32.not_le.mpr cb (by rw [mX] at q; exact q)) (m_thr4 hR (fun z hz => yy_f p_01 (l_noi (by decide) hn hI hS hz)))⟩))⟩)))))
          · refine goR (yy_t p_01 ⟨hin6, fun v hv => ?_⟩)
            have ev : v = X := hv.trans hX.symm
            subst ev
            refine yy_f cb (yy_t p_01 ⟨hin6, l_in01, h1, h2, h3, goM (yy_t' rfl (yy_t' rfl ⟨hin6', yy_t (by rw [mX]; exact Int32.not_lt.mp cb) (m_thr0 hR (fun z hz => yy_t rfl ⟨hin6', hin6', hin6', ?_⟩))⟩))⟩)
            have mZ : z.1 13 ((6 : Int32) * nI u + nI g).toNatClampNeg + c = v := by rw [hX, r_U9 hz, e6]
            rw [mZ, e6, ecl]
            rw [p_cl (by omega)] at cs
            rw [ecl] at hX
            have hG := l_use (t := 0) hI hS hu hg cs hX cr (Int32.not_lt.mp cb) hz
            refine l_yesi hn hG (r_R0 hz) ?_
            show v = upd (z.1 13) (u * 6 + g) v (u * 6 + g)
            rw [pk_us]
        · have c1 : ¬ xU.1 5 (nI u).toNatClampNeg = 1 := fun q => cs (Or.inl q)
          have c2 : ¬ xU.1 5 (nI u).toNatClampNeg = 2 := fun q => cs (Or.inr q)
          exact p_hasU_y hU.2 hU.1 hu (yy_f p_01 (p_good_y hg (yy_f p_01 (yy_t p_01 (yy_t cr ⟨hin, yy_f c1 ⟨hin, yy_f' c2 (yy_f (p_nn rfl) (yy_f neCA (yy_f neCB (yy_t rfl ⟨h1, h2, h3, m_isUnit_y hR hU.1 hU.2 hu (yy_f p_01 (m_good_y hg (yy_f' p_01 (m_in_y cr (yy_f' p_01 (yy_t' rfl ⟨hin, yy_f (fun q => c1 (mU.symm.trans q)) ⟨hin, yy_f (fun q => c2 (mU.symm.trans q)) (yy_t' rfl (yy_t' rfl ⟨hin6', fun _ => m_thr3 hR (fun z hz => yy_f p_01 (l_noi (by decide) hn hI hS hz)), fun _ => m_thr3 hR (fun z hz => yy_f p_01 (l_noi (by decide) hn hI hS hz))⟩))⟩⟩))))))⟩))))⟩⟩)))))
      · have hM2 : ∀ s0 : Int32, wj_M_use_70 xM (nI u) (nI g) c (fun r576 u576 => (wp_M_thrown u576 (fun r582 _ => ((r582 = (2 : Int32) → ((¬ (2 : Int32) = 0 → (∀ v4_1120 : Int32, v4_1120 = i4 + 5 → (rec23 xR xU xI xW u576 xo v4_1120))) ∧ ((2 : Int32) = 0 → (vp_in (0 : Int32) 1 ∧ (((lg_cmp (xo (0 : Int32).toNatClampNeg) r576.toInt64) = 0 → (∀ v4_1120 : Int32, v4_1120 = i4 + 5 → (rec23 xR xU xI xW u576 xo v4_1120))) ∧ (¬ (lg_cmp (xo (0 : Int32).toNatClampNeg) r576.toInt64) = 0 → (False))))))) ∧ (¬ r582 = (2 : Int32) → (False)))))) xM s0 0 1 := fun s0 => yy_t' rfl (yy_f' p_01 (m_thr2 hR (fun z hz => yy_f p_01 (l_noi (by decide) hn hI hS hz))))
        exact p_hasU_y hU.2 hU.1 hu (yy_f p_01 (p_good_y hg (yy_f p_01 (yy_t p_01 (yy_f cr (yy_f neBA (yy_t rfl ⟨h1, h2, h3, m_isUnit_y hR hU.1 hU.2 hu (yy_f p_01 (m_good_y hg (yy_f' p_01 (m_in_n cr (yy_t' rfl (yy_t' rfl ⟨hin, fun _ => hM2 0, fun _ => ⟨hin, fun _ => hM2 0, fun _ => hM2 1⟩⟩))))))⟩)))))))
    · refine p_hasU_y hU.2 hU.1 hu (yy_f p_01 (p_good_n cg (yy_t rfl (yy_f (p_nn rfl) (yy_t rfl ⟨h1, h2, h3, m_isUnit_y hR hU.1 hU.2 hu (yy_f p_01 (m_good_n cg (yy_t' rfl ?_)))⟩)))))
      exact m_in (fun _ => yy_f' p_01 (yy_f' p_01 (yy_f' p_01 (m_thr1 hR (fun z hz => yy_f p_01 (l_noi (by decide) hn hI hS hz)))))) (fun _ => yy_t' rfl (yy_f' p_01 (yy_f' p_01 (m_thr1 hR (fun z hz => yy_f p_01 (l_noi (by decide) hn hI hS hz))))))
  · refine p_hasU_n hU.2 hU.1 ck (yy_t rfl (yy_f (p_nn rfl) (yy_t rfl ⟨h1, h2, h3, m_isUnit_n hR hU.1 hU.2 ck (yy_t rfl ?_)⟩)))
    exact m_in (fun _ => yy_f' p_01 (yy_f' p_01 (yy_f' p_01 (m_thr1 hR (fun z hz => yy_f p_01 (l_noi (by decide) hn hI hS hz)))))) (fun _ => yy_t' rfl (yy_f' p_01 (yy_f' p_01 (m_thr1 hR (fun z hz => yy_f p_01 (l_noi (by decide) hn hI hS hz))))))
theorem case_8 (hn : nxt rec23 i4) (hg : Good xR xU xI xW xM) (h1 : vp_in (i4 + 1) L) (h2 : vp_in (i4 + 2) L) : wc_law_8 xs L rec23 xR xU xI xW xM xo i4 := by
  obtain ⟨n, ni, w, t, hI, hS, hR⟩ := hg
  unfold wc_law_8
  generalize xs (i4 + 1).toNatClampNeg = a
  generalize xs (i4 + 2).toNatClampNeg = b
  refine ⟨h1, h2, ?_⟩
  by_cases ck : ∃ u, u < 6 ∧ a = nI u
  · obtain ⟨g, hg, rfl⟩ := ck
    have hin := p_in hg (by omega)
    have eg : (nI g).toNatClampNeg = g := p_cl (by omega)
    by_cases c : ¬ b < 0 ∧ b ≤ 100000
    · obtain ⟨X, hX⟩ : ∃ X, X = xR.1 3 (nI g).toNatClampNeg + b := ⟨_, rfl⟩
      have mX : xM.1 14 (nI g).toNatClampNeg + b = X := by rw [hX, r_R3 hR]; rfl
      by_cases cb : (10000000 : Int32) < X
      · refine p_good_y hg (yy_t p_01 (yy_t c ⟨hin, fun v hv => ?_⟩))
        have ev : v = X := hv.trans hX.symm
        subst ev
        exact yy_t cb (yy_f (p_nn rfl) (yy_f neDA (yy_f neDB (yy_t rfl ⟨h1, h2, m_good_y hg (yy_f' p_01 (m_in_y c (yy_f' p_01 (yy_t' rfl (yy_t' rfl ⟨hin, yy_f (fun q => Int32.not_le.mpr cb (by rw [mX] at q; exact q)) (m_thr3 hR (fun z hz => yy_f p_01 (l_noi (by decide) hn hI hS hz)))⟩)))))⟩))))
      · have hI2 : Inv (sA xR 3 (nI g).toNatClampNeg X) xU xI xW n ni w := by
          rw [eg] at hX ⊢
          obtain ⟨b1, b2, b3, b4, b5, b6, b7, b8⟩ := hI
          refine ⟨b1, b2, b3, b4, b5, b6, fun k hk => ?_, b8⟩
          show inR (upd (xR.1 3) g X k) 0 10000000
          by_cases q : k = g
          · subst q
            rw [pk_us]
            have ho := b7 k hk
            have hc1 : (0 : Int32).toInt ≤ b.toInt := Int32.le_iff_toInt_le.mp (Int32.not_lt.mp c.1)
            have hc2 : b.toInt ≤ (100000 : Int32).toInt := Int32.le_iff_toInt_le.mp c.2
            have e1 : (0 : Int32).toInt = 0 := by decide
            have e2 : (100000 : Int32).toInt = 100000 := by decide
            have eX : X.toInt = (xR.1 3 k).toInt + b.toInt := by
              rw [hX]
              exact p_add_toInt (a := 0) (b := 10000000) ho ⟨by omega, by omega⟩ (by omega) (by omega)
            have hl2 : X.toInt ≤ (10000000 : Int32).toInt := Int32.le_iff_toInt_le.mp (Int32.not_lt.mp cb)
            have e3 : (10000000 : Int32).toInt = 10000000 := by decide
            have := ho.1
            exact ⟨by omega, by omega⟩
          · rw [pk_un q]; exact b7 k hk
        refine p_good_y hg (yy_t p_01 (yy_t c ⟨hin, fun v hv => ?_⟩))
        have ev : v = X := hv.trans hX.symm
        subst ev
        refine yy_f cb (yy_t p_01 ⟨hin, l_pset hI2 ⟨l_in01, h1, h2, m_good_y hg (yy_f' p_01 (m_in_y c (yy_f' p_01 (yy_t' rfl (yy_t' rfl ⟨hin, yy_t (by rw [mX]; exact Int32.not_lt.mp cb) (m_thr0 hR (fun z hz => yy_t rfl ⟨hin, hin, hin, fun r hr => ?_⟩))⟩)))))⟩⟩)
        have mZ : z.1 14 (nI g).toNatClampNeg + b = v := by rw [hX, r_R3 hz]; rfl
        rw [mZ] at hr ⊢
        have hz2 : Rel (sF (sA xR 3 (nI g).toNatClampNeg v) 0 0) xU xI xW (sA z 14 (nI g).toNatClampNeg v) := s_R3 hz _ _
        refine l_mset hI2 hz2 (fun z' hg e0 => l_yesi hn hg e0 ?_)
        rw [hr]
        show v = upd (z.1 14) (nI g).toNatClampNeg v (nI g).toNatClampNeg
        rw [pk_us]
    · exact p_good_y hg (yy_t p_01 (yy_f c (yy_f neBA (yy_t rfl ⟨h1, h2, m_good_y hg (yy_f' p_01 (m_in_n c (yy_t' rfl (yy_t' rfl (yy_f' p_01 (m_thr2 hR (fun z hz => yy_f p_01 (l_noi (by decide) hn hI hS hz))))))))⟩))))
  · refine p_good_n ck (yy_f (p_nn rfl) (yy_t rfl ⟨h1, h2, m_good_n ck (yy_t' rfl ?_)⟩))
    exact m_in (fun _ => yy_f' p_01 (yy_f' p_01 (m_thr1 hR (fun z hz => yy_f p_01 (l_noi (by decide) hn hI hS hz))))) (fun _ => yy_t' rfl (yy_f' p_01 (m_thr1 hR (fun z hz => yy_f p_01 (l_noi (by decide) hn hI hS hz)))))
end CASES
