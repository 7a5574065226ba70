/-! call -/
def iLast (P : Nat → Prop) (n : Nat) (b : Int32) : Prop := (b = -1 ∧ ∀ j, j < n → ¬ P j) ∨ ∃ j, j < n ∧ b = nI j ∧ P j ∧ ∀ k, j < k → k < n → ¬ P k
theorem iLast.no {P : Nat → Prop} {n : Nat} {b : Int32} (h : iLast P n b) (q : ¬ P n) : iLast P (n + 1) b := by
  rcases h with ⟨e, h⟩ | ⟨j, hj, e, hP, h⟩
  · refine Or.inl ⟨e, fun j hj => ?_⟩
    by_cases c : j = n
    · subst c; exact q
    · exact h j (by omega)
  · refine Or.inr ⟨j, by omega, e, hP, fun k h1 h2 => ?_⟩
    by_cases c : k = n
    · subst c; exact q
    · exact h k h1 (by omega)
theorem iLast.yes {P : Nat → Prop} {n : Nat} (q : P n) : iLast P (n + 1) (nI n) := Or.inr ⟨n, by omega, rfl, q, fun k h1 h2 => by omega⟩
theorem p_lat {x : St} {p : Int32} : ∀ n, iLast (fun j => x.1 0 j = p) n (fLat x p n) := by
  intro n
  induction n with
  | zero => exact Or.inl ⟨rfl, fun j hj => absurd hj (Nat.not_lt_zero j)⟩
  | succ n ih =>
    unfold fLat
    by_cases c : x.1 0 n = p
    · rw [if_pos c]; exact iLast.yes c
    · rw [if_neg c]; exact ih.no c
section CALL
variable {xR xU xI xW xM : St} {n ni w : Nat} {a : Int32}
/-- what the reference looks for: an incident of the place, open or closed not too long ago -/
def pFnd (xR xI : St) (a want : Int32) (j : Nat) : Prop := xI.1 0 j = a ∧ xI.1 1 j = want ∧ (want = 0 → ¬ xR.2 5 < xR.2 4 - xI.1 8 j)
theorem m_found {want : Int32} {post : Int32 → Unit → Prop} (hR : Rel xR xU xI xW xM) (hni : ni ≤ 20) (eni : xI.2 9 = nI ni) (hI : iIn ni (xR.2 4) xI) (h : ∀ v, iLast (pFnd xR xI a want) ni v → post v ()) : wp_M_found xM a want post := by
  have key : ∀ (k i : Nat) (v : Int32), i + k = ni → iLast (pFnd xR xI a want) i v → wl_M_found_5 xM a want post (k + 1) v (nI i) := by
    intro k
    induction k with
    | zero =>
      intro i v hik hv
      have e : i = ni := by omega
      subst e
      refine ⟨fun _ => h v hv, fun c => ?_⟩
      rw [r_I9 hR, eni, p_le (by omega) (by omega)] at c
      omega
    | succ k ih =>
      intro i v hik hv
      have hin := p_in (show i < 20 by omega) (by omega)
      have no : ¬ pFnd xR xI a want i → wj_M_found_63 xM a want post (wl_M_found_5 xM a want post (k + 1)) v (nI i) := by
        intro q
        refine yy_t rfl ?_
        intro v4 e4
        rw [e4, p_s]
        exact ih (i + 1) v (by omega) (hv.no q)
      have yes : pFnd xR xI a want i → wj_M_found_59 xM a want post (wl_M_found_5 xM a want post (k + 1)) v (nI i) := by
        intro q
        have take : wj_M_found_95 xM a want post (wl_M_found_5 xM a want post (k + 1)) (nI i) := by
          intro v4 e4
          rw [e4, p_s]
          exact ih (i + 1) (nI i) (by omega) (iLast.yes q)
        refine yy_f p_01 ⟨fun _ => take, fun c => ⟨fun _ => take, fun cw => ?_⟩⟩
        rcases hv with ⟨e, -⟩ | ⟨j, hj, e, hP, -⟩
        · exact absurd (show v < 0 by rw [e]; decide) c
        · rw [e]
          refine ⟨hin, p_in (by omega) (by omega), yy_f ?_ take⟩
          rw [p_cl (by omega), p_cl (by omega), r_I8 hR]
          have z := (hI.2.2.2 j i hj (by omega) (hP.1.trans q.1.symm)).2 (q.2.1.trans cw)
          exact Int32.not_lt.mpr z
      refine ⟨fun c => ?_, fun _ => ?_⟩
      · rw [r_I9 hR, eni, p_le (by omega) (by omega)] at c
        omega
      · rw [p_cl (by omega), r_I0 hR, r_I1 hR, r_I8 hR, r_R5 hR, r_R4 hR]
        exact ⟨hin, fun c => no (fun q => c q.1), fun c1 => ⟨hin, fun c => no (fun q => c q.2.1), fun c2 => ⟨fun c => yes ⟨c1, c2, fun q => absurd q c⟩, fun c3 => ⟨hin, fun c => no (fun q => q.2.2 c3 c), fun c => yes ⟨c1, c2, fun _ => c⟩⟩⟩⟩⟩
  exact ⟨ni + 1, key ni 0 (-1) (by omega) (Or.inl ⟨rfl, fun j hj => absurd hj (Nat.not_lt_zero j)⟩)⟩
theorem iLast.none {P : Nat → Prop} {m : Nat} {b : Int32} (h : iLast P m b) (q : ∀ j, j < m → ¬ P j) : b = -1 := by
  rcases h with ⟨e, -⟩ | ⟨j, hj, -, hP, -⟩
  · exact e
  · exact absurd hP (q j hj)
theorem iLast.is {P : Nat → Prop} {m j : Nat} {b : Int32} (h : iLast P m b) (hj : j < m) (hP : P j) (q : ∀ k, j < k → k < m → ¬ P k) : b = nI j := by
  rcases h with ⟨-, h⟩ | ⟨k, hk, e, hk2, h⟩
  · exact absurd hP (h j hj)
  · rcases Nat.lt_trichotomy j k with c | c | c
    · exact absurd hk2 (q k c hk)
    · rw [c]; exact e
    · exact absurd hP (h j c hj)
theorem p_sub1 {x y : Int32} (hx : inR x 0 999999) (h1 : -1 ≤ y.toInt) (h2 : y.toInt ≤ x.toInt) : (x - y).toInt = x.toInt - y.toInt := by
  obtain ⟨a1, a2⟩ := hx
  rw [Int32.toInt_sub]
  exact Int.bmod_eq_of_le (by omega) (by omega)
/-- the four ways in which a call finds its incident, on both sides -/
theorem p_call_find (hI : Inv xR xU xI xW n ni w) :
    (fLat xI a ni = -1 ∧ (∀ v, iLast (pFnd xR xI a 1) ni v → v = -1) ∧ (∀ v, iLast (pFnd xR xI a 0) ni v → v = -1)) ∨
    ∃ j, j < ni ∧ fLat xI a ni = nI j ∧ xI.1 0 j = a ∧ (∀ k, j < k → k < ni → ¬ xI.1 0 k = a) ∧
      ((xI.1 1 j = 1 ∧ (∀ v, iLast (pFnd xR xI a 1) ni v → v = nI j)) ∨
       (xI.1 1 j = 0 ∧ xR.2 4 - xI.1 8 j ≤ xR.2 5 ∧ (∀ v, iLast (pFnd xR xI a 1) ni v → v = -1) ∧ (∀ v, iLast (pFnd xR xI a 0) ni v → v = nI j)) ∨
       (xI.1 1 j = 0 ∧ ¬ xR.2 4 - xI.1 8 j ≤ xR.2 5 ∧ (∀ v, iLast (pFnd xR xI a 1) ni v → v = -1) ∧ (∀ v, iLast (pFnd xR xI a 0) ni v → v = -1))) := by
  have hsec := hI.2.2.2.1
  obtain ⟨i1, i2, i3, i5⟩ := hI.2.2.2.2.2.2.2
  rcases p_lat (x := xI) (p := a) ni with ⟨e, h⟩ | ⟨j, hj, e, hp, h⟩
  · exact Or.inl ⟨e, fun v hv => hv.none (fun k hk q => h k hk q.1), fun v hv => hv.none (fun k hk q => h k hk q.1)⟩
  · refine Or.inr ⟨j, hj, e, hp, h, ?_⟩
    have shut : ∀ k, k < j → xI.1 0 k = a → xI.1 1 k = 0 := fun k hk q => (i5 k j hk hj (q.trans hp.symm)).1
    have no1 : xI.1 1 j = 0 → ∀ v, iLast (pFnd xR xI a 1) ni v → v = -1 := by
      intro c v hv
      refine hv.none (fun k hk q => ?_)
      have q1 := q.2.1
      rcases Nat.lt_trichotomy k j with z | z | z
      · rw [shut k z q.1] at q1; exact absurd q1 (by decide)
      · rw [z, c] at q1; exact absurd q1 (by decide)
      · exact h k z hk q.1
    rcases (i1 j hj).1 with c | c
    · by_cases c2 : xR.2 4 - xI.1 8 j ≤ xR.2 5
      · refine Or.inr (Or.inl ⟨c, c2, no1 c, fun v hv => hv.is hj ⟨hp, c, fun _ => Int32.not_lt.mpr c2⟩ (fun k h1 h2 q => h k h1 h2 q.1)⟩)
      · refine Or.inr (Or.inr ⟨c, c2, no1 c, fun v hv => hv.none (fun k hk q => ?_)⟩)
        have q3 := Int32.not_lt.mp (q.2.2 rfl)
        rcases Nat.lt_trichotomy k j with z | z | z
        · have z2 := Int32.le_iff_toInt_le.mp ((i5 k j z hj (q.1.trans hp.symm)).2 c)
          have y1 := (i1 k hk).2.2
          have y2 := (i1 j hj).2.2
          have s1 := p_sub1 (y := xI.1 8 k) hsec y1.1 y1.2
          have s2 := p_sub1 (y := xI.1 8 j) hsec y2.1 y2.2
          refine c2 (Int32.le_iff_toInt_le.mpr ?_)
          have q4 := Int32.le_iff_toInt_le.mp q3
          omega
        · rw [z] at q3; exact c2 q3
        · exact h k z hk q.1
    · exact Or.inl ⟨c, fun v hv => hv.is hj ⟨hp, c, fun q => absurd q p_01⟩ (fun k h1 h2 q => h k h1 h2 q.1)⟩
/-- behind the finding: the call waits or not, and all is settled -/
theorem call_tail {xI3 : St} {a2 : Int32} {j ni' : Nat} (hj : j < 20) (hI3 : Inv xR xU xI3 xW n ni' w) (hw : ¬ a2 = 0 → w < 30) :
    ∃ xW3 w3, (∀ {post : Int32 → (St × St × St × St) → Prop} {postX : String → (St × St × St × St) → Prop}, post (nI j) (fSet xR xU xI3 xW3 n ni' w3).2 → wj_R_call_102 xR xU xI xW a a2 post postX xR xU xI3 xW (nI j)) ∧
      (∀ {post : Int32 → St → Prop} {z : St}, Rel (sF xR 0 0) xU xI3 xW z → (∀ y, Good (fSet xR xU xI3 xW3 n ni' w3).2.1 (fSet xR xU xI3 xW3 n ni' w3).2.2.1 (fSet xR xU xI3 xW3 n ni' w3).2.2.2.1 (fSet xR xU xI3 xW3 n ni' w3).2.2.2.2 y → y.2 0 = 0 → post (nI j) y) → wj_M_call_205 xM a a2 post z (nI j)) := by
  by_cases c : a2 = 0
  · refine ⟨xW, w, fun {post} {postX} h => yy_t c (l_pset hI3 h), fun {post} {z} hz h => yy_t c (l_mset hI3 hz h)⟩
  · have hlt := hw c
    obtain ⟨b1, b2, b3, b4⟩ := hI3
    have hI4 : Inv xR xU xI3 (fAddW xW w (nI j)) n ni' (w + 1) := by
      refine ⟨b1, b2, ⟨by omega, rfl, fun k hk => ?_⟩, b4⟩
      show ∃ i, i < 20 ∧ upd (xW.1 0) w (nI j) k = nI i
      by_cases q : k = w
      · subst q; rw [pk_us]; exact ⟨j, hj, rfl⟩
      · rw [pk_un q]; exact b3.2.2 k (by omega)
    refine ⟨fAddW xW w (nI j), w + 1, fun {post} {postX} h => yy_f c (p_addLast b3.2.1 hlt (l_pset hI4 h)), fun {post} {z} hz h => yy_f c ?_⟩
    have ez : z.2 25 = nI w := (r_W1 hz).trans b3.2.1
    have e1 : (sA z 26 (z.2 25).toNatClampNeg (nI j)).2 25 = nI w := ez
    refine ⟨by rw [ez]; exact p_in (by omega) (by omega), ?_⟩
    rw [e1, ez, p_cl (by omega), p_s]
    exact l_mset hI4 (s_W1 (s_W0 hz w (nI j)) (nI (w + 1))) h
end CALL
