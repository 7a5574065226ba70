/-! bits; the reference's goesOn, serves, ends; one pass of its settling -/
def bt (x : Int32) (i : Nat) : Bool := x.toBitVec.getLsbD i
theorem b_ext {x y : Int32} (h : ∀ i, i < 32 → bt x i = bt y i) : x = y := Int32.toBitVec_inj.mp (BitVec.eq_of_getLsbD_eq (fun i hi => h i hi))
theorem b_or (x y : Int32) (i : Nat) : bt (x ||| y) i = (bt x i || bt y i) := by unfold bt; rw [Int32.toBitVec_or, BitVec.getLsbD_or]
theorem b_and (x y : Int32) (i : Nat) : bt (x &&& y) i = (bt x i && bt y i) := by unfold bt; rw [Int32.toBitVec_and, BitVec.getLsbD_and]
theorem b_xor (x y : Int32) (i : Nat) : bt (x ^^^ y) i = (bt x i ^^ bt y i) := by unfold bt; rw [Int32.toBitVec_xor, BitVec.getLsbD_xor]
theorem b_m1 : ∀ i, i < 32 → bt (-1) i = true := by decide +kernel
theorem b_0 (i : Nat) : bt 0 i = false := BitVec.getLsbD_zero
theorem p_bits (m d : Int32) : m &&& (d ^^^ (-1)) = 0 ↔ d &&& m = m := by
  constructor
  · intro h
    refine b_ext (fun i hi => ?_)
    have h1 : bt (m &&& (d ^^^ (-1))) i = bt 0 i := by rw [h]
    rw [b_and, b_xor, b_m1 i hi, b_0] at h1
    rw [b_and]
    revert h1
    cases bt m i <;> cases bt d i <;> decide
  · intro h
    refine b_ext (fun i hi => ?_)
    have h1 : bt (d &&& m) i = bt m i := by rw [h]
    rw [b_and] at h1
    rw [b_and, b_xor, b_m1 i hi, b_0]
    revert h1
    cases bt m i <;> cases bt d i <;> decide
theorem p_mod8 {r : Nat} (h : r < 256) : nI r - nI r / (8 : Int32) * (8 : Int32) = nI (r % 8) := by
  rw [show (8 : Int32) = nI 8 from rfl]
  exact pk_rem (by omega) (by omega) (by omega)
theorem p_and7 {r : Nat} (h : r < 256) : nI r &&& (7 : Int32) = nI (r % 8) := pk_andN (k := 3) (by omega) (by decide)
theorem p_rows {r : Nat} (h : r < 256) : nI r - nI r / (8 : Int32) * (8 : Int32) = 7 ↔ nI r &&& (7 : Int32) = 7 := by rw [p_mod8 h, p_and7 h]
theorem m_goesOn {xR xU xI xW xM : St} (h : Rel xR xU xI xW xM) {u : Nat} {post : Int32 → St → Prop} (hu : u < 24)
    (hA : xU.1 5 u = 3 → ¬ xR.2 4 < fWE xU u → ∀ y, Rel xR (fBec xU u 4 (xR.2 4)) xI xW y → post 1 y)
    (hB : xU.1 5 u = 4 → ¬ xR.2 4 < fWE xU u → fCan xU (xR.1 3) u → ∀ y, Rel (sR xR 3 (fRef u (xU, xR.1 3)).2) (fBec (sA (fRef u (xU, xR.1 3)).1 4 u 0) u 5 (xR.2 4)) xI xW y → post 1 y)
    (hC : xU.1 5 u = 5 → fTD xU u = 0 → ∀ y, Rel xR (fBec xU u 0 (xR.2 4)) xI xW y → post 1 y)
    (h0 : ¬ (xU.1 5 u = 3 ∧ ¬ xR.2 4 < fWE xU u) → ¬ (xU.1 5 u = 4 ∧ ¬ xR.2 4 < fWE xU u ∧ fCan xU (xR.1 3) u) → ¬ (xU.1 5 u = 5 ∧ fTD xU u = 0) → post 0 xM) : wp_M_goesOn xM (nI u) post := by
  have hi := p_in hu (by omega)
  have j3 : ¬ (xU.1 5 u = 3 ∧ ¬ xR.2 4 < fWE xU u) → ¬ (xU.1 5 u = 4 ∧ ¬ xR.2 4 < fWE xU u ∧ fCan xU (xR.1 3) u) → wj_M_goesOn_139 xM (nI u) post xM := by
    intro n1 n2
    unfold wj_M_goesOn_139 wj_M_goesOn_180
    rw [p_cl (by omega), r_U5 h, r_U4 h, r_U3 h]
    refine ⟨hi, fun c => h0 n1 n2 (fun q => c q.1), fun c => ⟨hi, hi, hi, fun c2 => h0 n1 n2 (fun q => c2 ((p_bits _ _).mp q.2)), fun c2 => m_become h hu (fun y hy => hC c ((p_bits _ _).mpr c2) y hy)⟩⟩
  have j2 : ¬ (xU.1 5 u = 3 ∧ ¬ xR.2 4 < fWE xU u) → wj_M_goesOn_39 xM (nI u) post xM := by
    intro n1
    unfold wj_M_goesOn_39
    rw [p_cl (by omega), r_U5 h, r_U7 h, r_U2 h, r_R4 h]
    refine ⟨hi, fun c => j3 n1 (fun q => c q.1), fun c => ?_⟩
    have ew : fWE xU u = xU.1 7 u + xU.1 2 u := by
      unfold fWE
      rw [if_neg (by rw [c]; decide), if_pos c]
    refine ⟨hi, hi, fun c2 => j3 n1 (fun q => q.2.1 (by rw [ew]; exact c2)), fun c2 => m_hasStock h hu (fun c3 => ⟨fun q => absurd q (by decide), fun _ => ⟨7, ?_⟩⟩) (fun c3 => ⟨fun _ => j3 n1 (fun q => c3 q.2.2), fun q => absurd rfl q⟩)⟩
    have key : ∀ k i (s : St × (Nat → Int32)) (y : St), i + k = 6 → Rel (sR xR 3 s.2) s.1 xI xW y → (∀ z, Rel (sR xR 3 (fF (fRefS u) k i s).2) (fF (fRefS u) k i s).1 xI xW z → vp_in (nI u) 24 ∧ wp_M_become (sA z 11 (nI u).toNatClampNeg 0) (nI u) 5 (-1) (fun v => post 1 v)) → wl_M_goesOn_79 xM (nI u) post (k + 1) y (nI i) := by
      intro k
      induction k with
      | zero =>
        intro i s y hik hr hz
        have e : i = 6 := by omega
        subst e
        exact ⟨fun _ => hz y hr, fun c => absurd (by decide) c⟩
      | succ k ih =>
        intro i s y hik hr hz
        refine ⟨fun c => ?_, fun _ => ?_⟩
        · rw [show (6 : Int32) = nI 6 from rfl, p_le (by omega) (by omega)] at c
          omega
        · rw [p_6', p_cl (by omega), p_cl (by omega)]
          refine ⟨p_in (by omega) (by omega), p_in (by omega) (by omega), p_in (by omega) (by omega), p_in (by omega) (by omega), ?_⟩
          intro v hv
          rw [hv, p_s, r_R3 hr, r_U9 hr]
          exact ih (i + 1) (fRefS u i s) _ (by omega) (s_U9 (s_R3 hr i _) (u * 6 + i) 0) hz
    refine key 6 0 (xU, xR.1 3) xM rfl ?_ (fun z hz => ⟨hi, ?_⟩)
    · exact h
    · rw [p_cl (by omega)]
      refine m_become (s_U4 hz u 0) hu (fun y hy => hB c (by rw [ew]; exact c2) c3 y hy)
  unfold wp_M_goesOn
  rw [p_cl (by omega), r_U5 h, r_U7 h, r_U1 h, r_R4 h]
  refine ⟨hi, fun c => j2 (fun q => c q.1), fun c => ?_⟩
  have ew : fWE xU u = xU.1 7 u + xU.1 1 u := by
    unfold fWE
    rw [if_pos c]
  exact ⟨hi, hi, fun c2 => j2 (fun q => q.2 (by rw [ew]; exact c2)), fun c2 => m_become h hu (fun y hy => hA c (by rw [ew]; exact c2) y hy)⟩
theorem m_serves {xR xU xI xW xM : St} (h : Rel xR xU xI xW xM) {n w : Nat} {post : Int32 → St → Prop} (hn : xU.2 10 = nI n) (hl : n ≤ 24) (hw : iW w xW) (hlw : w ≤ 30)
    (h0 : w = 0 ∨ fNear xU n = -1 → post 0 xM)
    (h1 : ∀ v, w = v + 1 → ¬ fNear xU n = -1 → ∀ y, Rel xR (fBring (xU, xI, xW) (fNear xU n) (xR.2 4) v).1 (fBring (xU, xI, xW) (fNear xU n) (xR.2 4) v).2.1 (fBring (xU, xI, xW) (fNear xU n) (xR.2 4) v).2.2 y → post 1 y) : wp_M_serves xM post := by
  unfold wp_M_serves wj_M_serves_16
  refine m_nearest h hn hl ?_
  rw [r_W1 h, hw.1]
  refine ⟨fun c => h0 (Or.inl ?_), fun c => ⟨fun c2 => ?_, fun c2 => h0 (Or.inr ?_)⟩⟩
  · rcases Nat.eq_zero_or_pos w with q | q
    · exact q
    · exact absurd c (nI_ne0 q (by omega))
  · obtain ⟨v, rfl⟩ : ∃ v, w = v + 1 := by
      cases w with
      | zero => exact absurd rfl c
      | succ v => exact ⟨v, rfl⟩
    rcases p_near_in (x := xU) (n := n) with q | ⟨b, hb, -, q⟩
    · rw [q] at c2; exact absurd c2 (by decide)
    · obtain ⟨j, hj, e⟩ := hw.2 0 (by omega)
      refine ⟨p_in (u := 0) (by omega) (by omega), ?_⟩
      rw [show (0 : Int32).toNatClampNeg = 0 from rfl, r_W0 h, e, q]
      refine m_put h (by omega) hj (fun y hy => ⟨v + 1, ?_⟩)
      have e2 : fBring (xU, xI, xW) (fNear xU n) (xR.2 4) v = (fGoTo xU b (nI j) (xR.2 4), sA xI 2 j 1, fTake xW v) := by
        unfold fBring
        show (fGoTo xU (fNear xU n).toNatClampNeg (xW.1 0 0) (xR.2 4), sA xI 2 (xW.1 0 0).toNatClampNeg 1, fTake xW v) = _
        rw [q, p_cl (by omega), e, p_cl (by omega)]
      have hh := h1 v rfl (by rw [q]; exact p_ne1 (by omega))
      rw [e2] at hh
      have ew : y.2 25 = nI (v + 1) := by rw [r_W1 hy]; exact hw.1
      rw [ew, nI_pred]
      have key : ∀ k i (z : St) (g : Nat → Int32), i + k = v → Rel xR (fGoTo xU b (nI j) (xR.2 4)) (sA xI 2 j 1) (sR (sF xW 1 (nI v)) 0 g) z → (∀ t, t < i → g t = xW.1 0 (t + 1)) → (∀ t, i ≤ t → g t = xW.1 0 t) → wl_M_serves_41 xM post (k + 1) z (nI i) := by
        intro k
        induction k with
        | zero =>
          intro i z g hik hr hg1 hg2
          have e3 : i = v := by omega
          subst e3
          refine ⟨fun _ => hh z ?_, fun c9 => ?_⟩
          · have eg : g = va_cpy (xW.1 0) (xW.1 0) 1 0 i := by
              funext t
              rcases Nat.lt_or_ge t i with ht | ht
              · rw [hg1 t ht, pk_cpy_in (by omega) (by omega)]
                exact congrArg (xW.1 0) (by omega)
              · rw [hg2 t ht, pk_cpy_out (by omega)]
            rw [eg] at hr
            exact hr
          · rw [r_W1 hr] at c9
            exact absurd ((p_le (by omega) (by omega)).mpr (Nat.le_refl i)) c9
        | succ k ih =>
          intro i z g hik hr hg1 hg2
          have ez : z.2 25 = nI v := r_W1 hr
          refine ⟨fun c9 => ?_, fun _ => ?_⟩
          · rw [ez, p_le (by omega) (by omega)] at c9
            omega
          · rw [p_s, p_cl (by omega), p_cl (by omega)]
            refine ⟨p_in (by omega) (by omega), p_in (by omega) (by omega), ?_⟩
            intro t ht
            rw [ht]
            have eg : z.1 26 (i + 1) = g (i + 1) := by rw [r_W0 hr]; rfl
            rw [eg]
            refine ih (i + 1) _ (upd g i (g (i + 1))) (by omega) (s_W0 hr i (g (i + 1))) (fun t ht => ?_) (fun t ht => ?_)
            · rcases Nat.lt_or_ge t i with q2 | q2
              · rw [pk_un (by omega)]; exact hg1 t q2
              · have e4 : t = i := by omega
                subst e4
                rw [pk_us]; exact hg2 (t + 1) (by omega)
            · rw [pk_un (by omega)]; exact hg2 t (by omega)
      refine key v 0 _ (xW.1 0) (by omega) ?_ (fun t ht => absurd ht (Nat.not_lt_zero t)) (fun t _ => rfl)
      exact s_W1 hy (nI v)
  · rcases p_near_in (x := xU) (n := n) with q | ⟨b, hb, -, q⟩
    · exact q
    · rw [q] at c2
      exact absurd (nI_pos' (by omega)) c2
