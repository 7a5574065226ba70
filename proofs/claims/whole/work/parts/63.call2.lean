/-! call: both sides -/
section CALL
variable {xs : Nat → Int32} {L : Nat} {rec23 : Rec} {xR xU xI xW xM : St} {xo : Nat → Int64} {i4 : Int32} {n ni w : Nat} {a a2 : Int32}
def callEnd (rec23 : Rec) (i4 r : Int32) (u : St × St × St × St × (Nat → Int64)) (b : Int32) (z : St) : Prop := wp_M_thrown z (fun t _ => ((t = r → ((¬ r = 0 → (∀ v : Int32, v = i4 + 5 → (rec23 u.1 u.2.1 u.2.2.1 u.2.2.2.1 z u.2.2.2.2 v))) ∧ (r = 0 → (vp_in (0 : Int32) 1 ∧ (((lg_cmp (u.2.2.2.2 (0 : Int32).toNatClampNeg) b.toInt64) = 0 → (∀ v : Int32, v = i4 + 5 → (rec23 u.1 u.2.1 u.2.2.1 u.2.2.2.1 z u.2.2.2.2 v))) ∧ (¬ (lg_cmp (u.2.2.2.2 (0 : Int32).toNatClampNeg) b.toInt64) = 0 → (False))))))) ∧ (¬ t = r → (False))))
theorem p_open_i {j : Nat} (hI : Inv xR xU xI xW n ni w) (hj : j < ni) (hlast : ∀ k, j < k → k < ni → ¬ xI.1 0 k = xI.1 0 j) : Inv xR xU (fOpen xI j) xW n ni w := by
  obtain ⟨b1, b2, b3, b4, b5, b6, b7, ⟨i1, i2, i3, i5⟩⟩ := hI
  refine ⟨b1, b2, b3, b4, b5, b6, b7, ⟨fun i hi => ?_, fun i hi => ?_, fun i hi1 hi2 => ?_, fun i k hik hk => ?_⟩⟩
  · show (upd (xI.1 1) j 1 i = 0 ∨ upd (xI.1 1) j 1 i = 1) ∧ inR (upd (xI.1 5) j (-1) i) (-1) 999999 ∧ -1 ≤ (xI.1 8 i).toInt ∧ (xI.1 8 i).toInt ≤ (xR.2 4).toInt
    obtain ⟨a1, a2, a3⟩ := i1 i hi
    by_cases q : i = j
    · subst q; rw [pk_us, pk_us]; exact ⟨Or.inr rfl, ⟨by decide, by decide⟩, a3⟩
    · rw [pk_un q, pk_un q]; exact ⟨a1, a2, a3⟩
  · show ∃ r, r < 256 ∧ upd (xI.1 3) j 0 i = nI r
    by_cases q : i = j
    · subst q; rw [pk_us]; exact ⟨0, by omega, rfl⟩
    · rw [pk_un q]; exact i2 i hi
  · show upd (xI.1 1) j 1 i = 0
    rw [pk_un (by omega)]; exact i3 i hi1 hi2
  · show xI.1 0 i = xI.1 0 k → upd (xI.1 1) j 1 i = 0 ∧ (upd (xI.1 1) j 1 k = 0 → xI.1 8 i ≤ xI.1 8 k)
    intro e
    have qi : i ≠ j := by
      intro q
      subst q
      exact hlast k hik hk e.symm
    obtain ⟨c1, c2⟩ := i5 i k hik hk e
    rw [pk_un qi]
    refine ⟨c1, ?_⟩
    by_cases qk : k = j
    · subst qk; rw [pk_us]; exact fun q => absurd q p_01
    · rw [pk_un qk]; exact c2
theorem p_new_i (hI : Inv xR xU xI xW n ni w) (hlt : ni < 20) (hcl : ∀ i, i < ni → xI.1 0 i = a → xI.1 1 i = 0) : Inv xR xU (fOpen (fAddI xI ni a) ni) xW n (ni + 1) w := by
  obtain ⟨b1, b2, b3, b4, b5, b6, b7, ⟨i1, i2, i3, i5⟩⟩ := hI
  have em : (-1 : Int32).toInt = -1 := by decide
  refine ⟨b1, ⟨by omega, rfl⟩, b3, b4, b5, b6, b7, ⟨fun i hi => ?_, fun i hi => ?_, fun i hi1 hi2 => ?_, fun i k hik hk => ?_⟩⟩
  · show (upd (xI.1 1) ni 1 i = 0 ∨ upd (xI.1 1) ni 1 i = 1) ∧ inR (upd (xI.1 5) ni (-1) i) (-1) 999999 ∧ -1 ≤ (upd (xI.1 8) ni (-1) i).toInt ∧ (upd (xI.1 8) ni (-1) i).toInt ≤ (xR.2 4).toInt
    by_cases q : i = ni
    · subst q
      rw [pk_us, pk_us, pk_us]
      have := b4.1
      exact ⟨Or.inr rfl, ⟨by decide, by decide⟩, by omega, by omega⟩
    · rw [pk_un q, pk_un q, pk_un q]; exact i1 i (by omega)
  · show ∃ r, r < 256 ∧ upd (xI.1 3) ni 0 i = nI r
    by_cases q : i = ni
    · subst q; rw [pk_us]; exact ⟨0, by omega, rfl⟩
    · rw [pk_un q]; exact i2 i (by omega)
  · show upd (xI.1 1) ni 1 i = 0
    rw [pk_un (by omega)]; exact i3 i (by omega) hi2
  · show upd (xI.1 0) ni a i = upd (xI.1 0) ni a k → upd (xI.1 1) ni 1 i = 0 ∧ (upd (xI.1 1) ni 1 k = 0 → upd (xI.1 8) ni (-1) i ≤ upd (xI.1 8) ni (-1) k)
    have qi : i ≠ ni := by omega
    rw [pk_un qi, pk_un qi, pk_un qi]
    by_cases qk : k = ni
    · subst qk
      rw [pk_us, pk_us, pk_us]
      exact fun e => ⟨hcl i (by omega) e, fun q => absurd q p_01⟩
    · rw [pk_un qk, pk_un qk, pk_un qk]
      exact i5 i k hik (by omega)
theorem m_154 {y z : St} {j : Nat} {post : Int32 → St → Prop} (hj : j < 20) (hz : Rel xR xU xI xW z) (h : ∀ v, Rel xR xU (fOpen xI j) xW v → wj_M_call_205 y a a2 post v (nI j)) : wj_M_call_154 y a a2 post z (nI j) := by
  have hin := p_in hj (by omega)
  unfold wj_M_call_154
  refine ⟨hin, hin, hin, hin, hin, hin, hin, ?_⟩
  rw [p_cl (by omega), p_b0, p_b1]
  have e : (sA (sA (sA (sA (sA z 17 j 1) 18 j 0) 19 j 0) 20 j 0) 21 j (-1)).1 22 j = xI.1 6 j := by
    show z.1 22 j = xI.1 6 j
    rw [r_I6 hz]
  rw [e]
  exact h _ (s_I6 (s_I5 (s_I4 (s_I3 (s_I2 (s_I1 hz j 1) j 0) j 0) j 0) j (-1)) j (xI.1 6 j + 1))
theorem p_m1neg : (-1 : Int32) < 0 := by decide
theorem p_m1pos : ¬ (0 : Int32) ≤ -1 := by decide
theorem call_main {t : Int32} {postL : Int32 → (St × St × St × St × (Nat → Int64)) → Prop} (hn : nxt rec23 i4) (hI : Inv xR xU xI xW n ni w) (hS : Settled xR xU xI xW n ni w) (hR : Rel (sF xR 0 t) xU xI xW xM) (K : ∀ r u, wp_M_call xM a a2 (callEnd rec23 i4 r u) → postL r u) : wp_L_call xR xU xI xW xo a a2 postL := by
  have hN := hI.2.1
  have hW := hI.2.2.1
  have hIn : iIn ni ((sF xR 0 t).2 4) xI := hI.2.2.2.2.2.2.2
  have eW : xM.2 25 = nI w := (r_W1 hR).trans hW.2.1
  have eN : xM.2 15 = nI ni := (r_I9 hR).trans hN.2
  by_cases c : ¬ a < 0 ∧ a ≤ 99
  · by_cases cw : ¬ a2 = 0 ∧ w = 30
    · -- too many wait
      obtain ⟨ca, rfl⟩ := cw
      have x1 : (30 : Int32) ≤ xW.2 1 := by rw [hW.2.1]; decide
      refine yy_t c (yy_f ca (yy_t x1 (yy_f (p_nn rfl) (yy_f neDB (yy_t rfl (K 2 _ (m_in_y c (yy_f' p_01 ?_))))))))
      have h92 : ∀ v4 v5 : Int32, wj_M_call_92 xM a a2 (callEnd rec23 i4 2 (xR, xU, xI, xW, xo)) xM 1 0 v4 v5 := fun v4 v5 => m_thr2 hR (fun z hz => yy_f p_01 (l_noi (by decide) hn hI hS hz))
      have h65 : ∀ s v4 v5 : Int32, wj_M_call_65 xM a a2 (callEnd rec23 i4 2 (xR, xU, xI, xW, xo)) xM s 0 v4 v5 := fun s v4 v5 => ⟨fun _ => h92 v4 v5, fun _ => yy_f ca (yy_t' eW (h92 v4 v5))⟩
      have h39 : ∀ v4 v5 : Int32, wj_M_call_39 xM a a2 (callEnd rec23 i4 2 (xR, xU, xI, xW, xo)) xM v5 0 v4 := fun v4 v5 => ⟨fun _ => h65 1 v4 v5, fun _ => ⟨fun _ => h65 1 v4 v5, fun _ => ⟨fun _ => h65 0 v4 v5, fun _ => h65 1 v4 v5⟩⟩⟩
      exact m_found hR hN.1 hN.2 hIn (fun v4 _ => ⟨fun _ => h39 v4 (-1), fun _ => m_found hR hN.1 hN.2 hIn (fun v5 _ => h39 v4 v5)⟩)
    · have room : ¬ a2 = 0 → w < 30 := fun q => by
        have h30 := hW.1
        have : ¬ w = 30 := fun e => cw ⟨q, e⟩
        omega
      have goR : ∀ {post : Int32 → (St × St × St × St) → Prop} {postX : String → (St × St × St × St) → Prop}, wj_R_call_28 xR xU xI xW a a2 post postX xR xU xI xW 1 → wp_R_call xR xU xI xW a a2 post postX := by
        intro post postX h
        refine yy_t c ⟨fun _ => h, fun q => yy_f ?_ h⟩
        have hlt := room q
        rw [hW.2.1, show (30 : Int32) = nI 30 from rfl, p_le (by omega) (by omega)]
        omega
      have go65 : ∀ {post : Int32 → St → Prop} {v4 v5 : Int32}, wj_M_call_92 xM a a2 post xM 0 0 v4 v5 → wj_M_call_65 xM a a2 post xM 1 0 v4 v5 := by
        intro post v4 v5 h
        refine yy_f p_01 ⟨fun _ => h, fun q => yy_f' ?_ h⟩
        have hlt := room q
        rw [eW]
        intro e
        have := p_same (by omega) (by omega) (e.trans (show (30 : Int32) = nI 30 from rfl))
        omega
      have goM : ∀ {post : Int32 → St → Prop}, wj_M_call_15 xM a a2 post xM 0 → wp_M_call xM a a2 post := fun h => m_in_y c (yy_f' p_01 h)
      -- a new incident
      have new : (∀ v, iLast (pFnd xR xI a 1) ni v → v = -1) → (∀ v, iLast (pFnd xR xI a 0) ni v → v = -1) → (∀ i, i < ni → xI.1 0 i = a → xI.1 1 i = 0) → wj_R_call_53 xR xU xI xW a a2 (fun r5 u5 => (vp_in (0 : Int32) 1 ∧ (postL (0 : Int32) (u5.1, u5.2.1, u5.2.2.1, u5.2.2.2, (vp_updL xo (0 : Int32).toNatClampNeg r5.toInt64))))) (fun E u5 => ((E = "java/lang/IndexOutOfBoundsException" → (postL (1 : Int32) (u5.1, u5.2.1, u5.2.2.1, u5.2.2.2, xo))) ∧ (¬ E = "java/lang/IndexOutOfBoundsException" → ((E = "java/lang/UnsupportedOperationException" → (postL (2 : Int32) (u5.1, u5.2.1, u5.2.2.1, u5.2.2.2, xo))) ∧ (¬ E = "java/lang/UnsupportedOperationException" → (False)))))) xR xU xI xW := by
        intro f1 f0 hcl
        have fnd : ∀ {post : Int32 → St → Prop}, wj_M_call_39 xM a a2 post xM (-1) 0 (-1) → wj_M_call_15 xM a a2 post xM 0 := by
          intro post h
          refine m_found hR hN.1 hN.2 hIn (fun v4 h4 => ?_)
          rw [f1 v4 h4]
          refine yy_f p_m1pos (m_found hR hN.1 hN.2 hIn (fun v5 h5 => ?_))
          rw [f0 v5 h5]
          exact h
        by_cases c20 : ni = 20
        · have x1 : (20 : Int32) ≤ xI.2 9 := by rw [hN.2, c20]; decide
          have x2 : (20 : Int32) ≤ xM.2 15 := by rw [eN, c20]; decide
          refine yy_t x1 (yy_f (p_nn rfl) (yy_f neDB (yy_t rfl (K 2 _ (goM (fnd ?_))))))
          exact yy_f p_m1pos (yy_f p_m1pos (yy_t x2 (yy_t rfl (m_thr2 hR (fun z hz => yy_f p_01 (l_noi (by decide) hn hI hS hz))))))
        · have hlt : ni < 20 := by omega
          have x1 : ¬ (20 : Int32) ≤ xI.2 9 := by
            rw [hN.2, show (20 : Int32) = nI 20 from rfl, p_le (by omega) (by omega)]
            omega
          have x2 : ¬ (20 : Int32) ≤ xM.2 15 := by
            rw [eN, show (20 : Int32) = nI 20 from rfl, p_le (by omega) (by omega)]
            omega
          have hin := p_in hlt (by omega)
          have eo : (fAddI xI ni a).1 1 (nI ni).toNatClampNeg = 0 := by
            rw [p_cl (by omega)]
            exact hIn.2.2.1 ni (Nat.le_refl ni) hlt
          obtain ⟨xW3, w3, tR, tM⟩ := call_tail (xI := xI) (xM := xM) (a := a) (a2 := a2) hlt (p_new_i (a := a) hI hlt hcl) room
          refine yy_f x1 (yy_t p_01 (p_addIncident hN.2 hlt ⟨hin, yy_t' eo (p_open hlt (tR ⟨l_in01, K 0 _ (goM (fnd (yy_f p_m1pos (yy_f p_m1pos (yy_f x2 (go65 (m_thr0 hR (fun z hz => yy_t rfl (yy_f p_m1pos (yy_t p_m1neg (yy_f p_m1pos ?_)))))))))))⟩))⟩))
          have ez : z.2 15 = nI ni := (r_I9 hz).trans hN.2
          have e2 : (sA (sA z 16 (nI ni).toNatClampNeg a) 24 (nI ni).toNatClampNeg (-1)).2 15 = nI ni := ez
          rw [ez]
          refine ⟨hin, hin, ?_⟩
          rw [e2, p_s, p_cl (by omega)]
          have hz2 : Rel (sF xR 0 0) xU (fAddI xI ni a) xW (sF (sA (sA z 16 ni a) 24 ni (-1)) 15 (nI (ni + 1))) := s_I9 (s_I8 (s_I0 hz ni a) ni (-1)) (nI (ni + 1))
          exact m_154 hlt hz2 (fun v hv => tM hv (fun y hg e0 => l_yesi hn hg e0 rfl))
      refine goR (yy_t p_01 (p_latestOf hN.2 hN.1 ?_))
      rcases p_call_find (a := a) hI with ⟨e, f1, f0⟩ | ⟨j, hj, e, hp, hlast, hh⟩
      · rw [e]
        refine yy_t rfl (new f1 f0 (fun i hi q => ?_))
        rcases p_lat (x := xI) (p := a) ni with ⟨-, h⟩ | ⟨j, hj, e2, -, -⟩
        · exact absurd q (h i hi)
        · rw [e] at e2
          exact absurd e2.symm (p_ne1 (by omega))
      · have hj20 : j < 20 := by omega
        have hin := p_in hj20 (by omega)
        have ej : (nI j).toNatClampNeg = j := p_cl (by omega)
        have e0j : (0 : Int32) ≤ nI j := nI_pos' (by omega)
        have enj : ¬ nI j < 0 := p_neg (by omega)
        rw [e]
        refine yy_f (p_ne1 (by omega)) ?_
        rcases hh with ⟨co, f1⟩ | ⟨co, cp, f1, f0⟩ | ⟨co, cp, f1, f0⟩
        · have co' : ¬ xI.1 1 (nI j).toNatClampNeg = 0 := by rw [ej, co]; exact p_01
          obtain ⟨xW3, w3, tR, tM⟩ := call_tail (xI := xI) (xM := xM) (a := a) (a2 := a2) hj20 hI room
          refine ⟨hin, yy_f' co' (yy_t rfl ⟨hin, yy_f' co' (tR ⟨l_in01, K 0 _ (goM ?_)⟩)⟩)⟩
          refine m_found hR hN.1 hN.2 hIn (fun v4 h4 => ?_)
          rw [f1 v4 h4]
          exact yy_t e0j (yy_t e0j (go65 (m_thr0 hR (fun z hz => yy_t rfl (yy_t e0j (tM hz (fun y hg e0 => l_yesi hn hg e0 rfl)))))))
        · have co' : xI.1 1 (nI j).toNatClampNeg = 0 := by rw [ej, co]
          have cp' : xR.2 4 - xI.1 8 (nI j).toNatClampNeg ≤ xR.2 5 := by rw [ej]; exact cp
          have hIo := p_open_i hI hj (fun k h1 h2 q => hlast k h1 h2 (q.trans hp))
          obtain ⟨xW3, w3, tR, tM⟩ := call_tail (xI := xI) (xM := xM) (a := a) (a2 := a2) hj20 hIo room
          refine ⟨hin, yy_t' co' ⟨hin, yy_t cp' (yy_t rfl ⟨hin, yy_t' co' (p_open hj20 (tR ⟨l_in01, K 0 _ (goM ?_)⟩))⟩)⟩⟩
          refine m_found hR hN.1 hN.2 hIn (fun v4 h4 => ?_)
          rw [f1 v4 h4]
          refine yy_f p_m1pos (m_found hR hN.1 hN.2 hIn (fun v5 h5 => ?_))
          rw [f0 v5 h5]
          exact yy_f p_m1pos (yy_t e0j (go65 (m_thr0 hR (fun z hz => yy_t rfl (yy_f p_m1pos (yy_f enj (yy_t e0j (m_154 hj20 hz (fun v hv => tM hv (fun y hg e0 => l_yesi hn hg e0 rfl))))))))))
        · have co' : xI.1 1 (nI j).toNatClampNeg = 0 := by rw [ej, co]
          have cp' : ¬ xR.2 4 - xI.1 8 (nI j).toNatClampNeg ≤ xR.2 5 := by rw [ej]; exact cp
          refine ⟨hin, yy_t' co' ⟨hin, yy_f cp' (yy_f p_01 (new f1 f0 (fun i hi q => ?_)))⟩⟩
          rcases Nat.lt_trichotomy i j with z | z | z
          · exact (hIn.2.2.2 i j z hj (q.trans hp.symm)).1
          · rw [z]; exact co
          · exact absurd q (hlast i z hi)
  · refine yy_f c (yy_t rfl (K 1 _ (m_in_n c (yy_t' rfl ?_))))
    have h92 : ∀ s v4 v5 : Int32, wj_M_call_92 xM a a2 (callEnd rec23 i4 1 (xR, xU, xI, xW, xo)) xM s 1 v4 v5 := fun s v4 v5 => m_thr1 hR (fun z hz => yy_f p_01 (l_noi (by decide) hn hI hS hz))
    have h65 : ∀ s v4 v5 : Int32, wj_M_call_65 xM a a2 (callEnd rec23 i4 1 (xR, xU, xI, xW, xo)) xM s 1 v4 v5 := fun s v4 v5 => ⟨fun _ => h92 1 v4 v5, fun _ => ⟨fun _ => h92 0 v4 v5, fun _ => ⟨fun _ => h92 0 v4 v5, fun _ => h92 1 v4 v5⟩⟩⟩
    have h39 : ∀ v4 v5 : Int32, wj_M_call_39 xM a a2 (callEnd rec23 i4 1 (xR, xU, xI, xW, xo)) xM v5 1 v4 := fun v4 v5 => ⟨fun _ => h65 1 v4 v5, fun _ => ⟨fun _ => h65 1 v4 v5, fun _ => ⟨fun _ => h65 0 v4 v5, fun _ => h65 1 v4 v5⟩⟩⟩
    exact m_found hR hN.1 hN.2 hIn (fun v4 _ => ⟨fun _ => h39 v4 (-1), fun _ => m_found hR hN.1 hN.2 hIn (fun v5 _ => h39 v4 v5)⟩)
theorem case_3 (hn : nxt rec23 i4) (hg : Good xR xU xI xW xM) (h1 : vp_in (i4 + 1) L) (h2 : vp_in (i4 + 2) L) : wc_law_3 xs L rec23 xR xU xI xW xM xo i4 := by
  obtain ⟨n, ni, w, t, hI, hS, hR⟩ := hg
  unfold wc_law_3
  generalize xs (i4 + 1).toNatClampNeg = a
  generalize xs (i4 + 2).toNatClampNeg = b
  exact ⟨h1, h2, fun c => call_main hn hI hS hR (fun r u h => ⟨h1, h2, yy_t c h⟩), fun c => call_main hn hI hS hR (fun r u h => ⟨h1, h2, yy_f c h⟩)⟩
end CALL
