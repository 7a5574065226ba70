/-! the law's cases, one by one -/
theorem l_endv {z : St} {k : Int32} {K : Prop} (e : z.2 0 = k) (h : K) : wp_M_thrown z (fun t _ => (t = k → K) ∧ (¬ t = k → False)) := ⟨fun _ => h, fun q => q e⟩
theorem l_cmp {a : Int64} : lg_cmp a a = 0 := by
  unfold lg_cmp
  simp
theorem l_in01 : vp_in (0 : Int32) 1 := p_in (u := 0) (by omega) (by omega)
theorem l_endi {z : St} {k b : Int32} {o : Int64} {K : Prop} (e : z.2 0 = k) (h : K) (hb : k = 0 → o = b.toInt64) : wp_M_thrown z (fun t _ => (t = k → ((¬ k = 0 → K) ∧ (k = 0 → (vp_in (0 : Int32) 1 ∧ (((lg_cmp o b.toInt64) = 0 → K) ∧ (¬ (lg_cmp o b.toInt64) = 0 → False)))))) ∧ (¬ t = k → False)) :=
  ⟨fun _ => ⟨fun _ => h, fun q => ⟨l_in01, fun _ => h, fun c => c (by rw [hb q]; exact l_cmp)⟩⟩, fun q => q e⟩
abbrev Rec : Type := St → St → St → St → St → (Nat → Int64) → Int32 → Prop
/-- the next turn may start in every good state -/
def nxt (rec23 : Rec) (i4 : Int32) : Prop := ∀ xR xU xI xW xM xo, Good xR xU xI xW xM → ∀ v : Int32, v = i4 + 5 → rec23 xR xU xI xW xM xo v
theorem p_01 : ¬ (1 : Int32) = 0 := by decide
theorem case_2 {xs : Nat → Int32} {L : Nat} {rec23 : Rec} {xR xU xI xW xM : St} {xo : Nat → Int64} {i4 : Int32} (hn : nxt rec23 i4) (hg : Good xR xU xI xW xM) (h1 : vp_in (i4 + 1) L) : wc_law_2 xs L rec23 xR xU xI xW xM xo i4 := by
  obtain ⟨n, ni, w, t, hI, hS, hR⟩ := hg
  unfold wc_law_2
  generalize xs (i4 + 1).toNatClampNeg = a
  refine ⟨h1, fun c => ⟨h1, ?_⟩, fun c => ⟨fun _ => ⟨h1, ?_⟩, fun q => absurd rfl q⟩⟩
  · refine m_in (fun _ => ⟨fun _ => ?_, fun q => absurd q p_01⟩) (fun q => absurd c q)
    refine m_throwing hR (fun q => absurd rfl q) (fun _ q => absurd rfl q) (fun _ _ q => absurd rfl q) (fun _ _ _ q => absurd rfl q) (fun _ _ _ _ z hz => ⟨fun _ => ?_, fun q => absurd rfl q⟩)
    have hz2 := s_R5 hz a
    refine l_endv (r_R0 hz2) (hn _ _ _ _ _ _ ⟨n, ni, w, 0, ?_, hS, ?_⟩)
    · obtain ⟨b1, b2, b3, b4, b5, b6⟩ := hI
      refine ⟨b1, b2, b3, b4, ⟨?_, ?_⟩, b6⟩
      · show 0 ≤ a.toInt
        have q := Int32.not_lt.mp c.1
        exact Int32.le_iff_toInt_le.mp q
      · show a.toInt ≤ 100000
        exact Int32.le_iff_toInt_le.mp c.2
    · exact hz2
  · refine m_in (fun q => absurd q c) (fun _ => ⟨fun q => absurd rfl q, fun _ => ?_⟩)
    refine m_throwing hR (fun _ z hz => ⟨fun q => absurd q p_01, fun _ => ?_⟩) (fun q => absurd q p_01) (fun q => absurd q p_01) (fun q => absurd q p_01) (fun q => absurd q p_01)
    exact l_endv (r_R0 hz) (hn _ _ _ _ _ _ ⟨n, ni, w, 1, hI, hS, hz⟩)
theorem s_homeEq {xU : St} {u : Nat} {a : Int32} {v : Nat} : eqU (sA xU 0 u a) (sA xU 0 u a) v := eqU.rf
theorem p_nearNone {x y : St} {n : Nat} (e : ∀ u, u < n → y.1 5 u = x.1 5 u) (h : fNear x n = -1) : fNear y n = -1 := by
  rcases p_near_in (x := y) (n := n) with q | ⟨b, hb, q1, q⟩
  · exact q
  · exfalso
    have key : ∀ (k i : Nat) (c : Int32), i + k = n → (¬ c = -1 ∨ ∃ u, i ≤ u ∧ u < n ∧ x.1 5 u = 0) → ¬ fF (sNear x) k i c = -1 ∨ 1000 < n := by
      intro k
      induction k with
      | zero =>
        intro i c hik hc
        rcases hc with hc | ⟨u, h1, h2, -⟩
        · exact Or.inl hc
        · omega
      | succ k ih =>
        intro i c hik hc
        by_cases hb2 : 1000 < n
        · exact Or.inr hb2
        refine ih (i + 1) (sNear x i c) (by omega) ?_
        have hne : ¬ nI i = -1 := p_ne1 (by omega)
        by_cases c5 : x.1 5 i = 0
        · left
          unfold sNear
          rw [if_pos c5]
          by_cases c1 : c = -1
          · rw [if_pos c1]; exact hne
          · rw [if_neg c1]
            by_cases c2 : x.1 0 c.toNatClampNeg ≤ x.1 0 i
            · rw [if_pos c2]; exact c1
            · rw [if_neg c2]; exact hne
        · unfold sNear
          rw [if_neg c5]
          rcases hc with hc | ⟨u, a1, a2, a3⟩
          · exact Or.inl hc
          · refine Or.inr ⟨u, ?_, a2, a3⟩
            by_cases q5 : u = i
            · subst q5; exact absurd a3 c5
            · omega
    sorry
