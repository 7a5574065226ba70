/-! the reference's small methods, told by the class's cells -/
theorem m_become {xR xU xI xW xM : St} (h : Rel xR xU xI xW xM) {u : Nat} {st : Int32} {post : St → Prop} (hu : u < 24) (hp : ∀ y, Rel xR (fBec xU u st (xR.2 4)) xI xW y → post y) : wp_M_become xM (nI u) st (-1) post := by
  have hi := p_in hu (by omega)
  unfold wp_M_become
  rw [p_cl (by omega)]
  refine ⟨hi, hi, hi, hp _ ?_⟩
  rw [show (sA (sA xM 8 u st) 9 u (-1)).2 1 = xM.2 1 from rfl, r_R4 h]
  exact s_U7 (s_U6 (s_U5 h u st) u (-1)) u (xR.2 4)
theorem p_uu {f : Nat → Int32} {u : Nat} {a b : Int32} : upd (upd f u a) u b = upd f u b := by
  funext j
  by_cases c : j = u
  · subst c; rw [pk_us, pk_us]
  · rw [pk_un c, pk_un c, pk_un c]
theorem m_put {xR xU xI xW xM : St} (h : Rel xR xU xI xW xM) {u i : Nat} {post : St → Prop} (hu : u < 24) (hi20 : i < 20) (hp : ∀ y, Rel xR (fGoTo xU u (nI i) (xR.2 4)) (sA xI 2 i 1) xW y → post y) : wp_M_put xM (nI u) (nI i) post := by
  have hi := p_in hu (by omega)
  unfold wp_M_put wp_M_become
  rw [p_cl (u := u) (by omega), p_cl (u := i) (by omega), p_b1]
  refine ⟨hi, hi, hi, p_in hi20 (by omega), hi, hi, hp _ ?_⟩
  have e : (sA (sA (sA (sA xM 8 u 1) 9 u (nI i)) 10 u ((sA (sA xM 8 u 1) 9 u (nI i)).2 1)) 18 i 1).1 12 u = xU.1 8 u := by
    show xM.1 12 u = xU.1 8 u
    rw [r_U8 h]
  rw [e, show (sA (sA xM 8 u 1) 9 u (nI i)).2 1 = xM.2 1 from rfl, r_R4 h]
  obtain ⟨g0, g1, g2, g3, g4, g5, g6, g7, g8, g9, g10, g11, g12, g13, g14, g15, g16, g17, g18, g19, g20, g21, g22, g23, g24, g25, g26⟩ := s_U8 (s_I2 (s_U7 (s_U6 (s_U5 h u 1) u (nI i)) u (xR.2 4)) i 1) u (xU.1 8 u + 1)
  exact ⟨g0, g1, g2, g3, g4, g5.trans p_uu.symm, g6, g7, g8, g9, g10, g11, g12, g13, g14, g15, g16, g17, g18, g19, g20, g21, g22, g23, g24, g25, g26⟩
theorem p_narB0 : narrow .boolean (.int (0 : Int32)) = .int 0 := by decide
theorem p_narB1 : narrow .boolean (.int (1 : Int32)) = .int 1 := by decide
theorem p_ltle {a b : Int32} : ¬ a < b ↔ b ≤ a := Int32.not_lt
theorem m_hasStock {xR xU xI xW xM : St} (h : Rel xR xU xI xW xM) {u : Nat} {post : Int32 → Unit → Prop} (hu : u < 24) (h1 : fCan xU (xR.1 3) u → post 1 ()) (h0 : ¬ fCan xU (xR.1 3) u → post 0 ()) : wp_M_hasStock xM (nI u) post := by
  have key : ∀ k i v, i + k = 6 → (v = 1 ∧ (∀ g, g < i → xU.1 9 (u * 6 + g) ≤ xR.1 3 g) ∨ v = 0 ∧ ¬ fCan xU (xR.1 3) u) → wl_M_hasStock_4 xM (nI u) post (k + 1) v (nI i) := by
    intro k
    induction k with
    | zero =>
      intro i v hi hv
      have e : i = 6 := by omega
      subst e
      refine ⟨fun _ => ?_, fun c => absurd (by decide) c⟩
      rcases hv with ⟨rfl, hok⟩ | ⟨rfl, hno⟩
      · exact ⟨p_narB1, h1 hok⟩
      · exact ⟨p_narB0, h0 hno⟩
    | succ k ih =>
      intro i v hi hv
      refine ⟨fun c => ?_, fun _ => ?_⟩
      · rw [show (6 : Int32) = nI 6 from rfl, p_le (by omega) (by omega)] at c
        omega
      · unfold wj_M_hasStock_38 wj_M_hasStock_39
        rw [p_6', p_cl (by omega), p_cl (by omega), r_R3 h, r_U9 h]
        rcases hv with ⟨rfl, hok⟩ | ⟨rfl, hno⟩
        · refine ⟨fun q => absurd q (by decide), fun _ => ⟨p_in (by omega) (by omega), p_in (by omega) (by omega), fun c => ?_, fun c => ?_⟩⟩
          · intro w hw
            rw [hw, p_s]
            exact ih (i + 1) 0 (by omega) (Or.inr ⟨rfl, fun q => absurd c (Int32.not_lt.mpr (q i (by omega)))⟩)
          · intro w hw
            rw [hw, p_s]
            exact ih (i + 1) 1 (by omega) (Or.inl ⟨rfl, lt_s hok (Int32.not_lt.mp c)⟩)
        · refine ⟨fun _ => ?_, fun q => absurd rfl q⟩
          intro w hw
          rw [hw, p_s]
          exact ih (i + 1) 0 (by omega) (Or.inr ⟨rfl, hno⟩)
  exact ⟨7, key 6 0 1 rfl (Or.inl ⟨rfl, fun g h => absurd h (Nat.not_lt_zero g)⟩)⟩
theorem m_nearest {xR xU xI xW xM : St} (h : Rel xR xU xI xW xM) {n : Nat} {post : Int32 → Unit → Prop} (hn : xU.2 10 = nI n) (hl : n ≤ 24) (hp : post (fNear xU n) ()) : wp_M_nearest xM post := by
  refine ⟨n + 1, ?_⟩
  refine p_loop (Wl := fun k b i => wl_M_nearest_4 xM post k b i) (N := n) (step := sNear xU) (I := fun i b => iBest (fun v => xU.1 5 v = 0) i b) (post := fun b => post b ()) ?_ ?_ (fun b i _ q => p_nearI q) n 0 (-1) (by omega) (Or.inl rfl) hp
  · intro k b _ hp
    refine ⟨fun _ => hp, fun c => ?_⟩
    rw [r_U10 h, hn, p_le (by omega) (by omega)] at c
    omega
  · intro k b i hi hb hw
    have hin := p_in (show i < 24 by omega) (by omega)
    refine ⟨fun c => ?_, fun _ => ?_⟩
    · rw [r_U10 h, hn, p_le (by omega) (by omega)] at c
      omega
    · unfold wj_M_nearest_40 wj_M_nearest_42
      rw [p_cl (by omega), r_U5 h, r_U0 h]
      unfold sNear at hw
      have hneg : b < 0 → b = -1 := by
        intro c
        rcases hb with q | ⟨v, hv, -, q⟩
        · exact q
        · rw [q] at c; exact absurd c (p_neg (by omega))
      have hpos : ¬ b < 0 → ¬ b = -1 := fun c q => c (by rw [q]; decide)
      refine ⟨hin, fun c => ?_, fun c => ⟨fun c2 => ?_, fun c2 => ⟨hin, ?_, fun c3 => ?_, fun c3 => ?_⟩⟩⟩
      · intro v hv; rw [hv, p_s]; rw [if_neg c] at hw; exact hw
      · intro v hv; rw [hv, p_s]; rw [if_pos c, if_pos (hneg c2)] at hw; exact hw
      · rcases hb with q | ⟨v, hv, -, q⟩
        · exact absurd q (hpos c2)
        · rw [q]; exact p_in (by omega) (by omega)
      · intro v hv; rw [hv, p_s]; rw [if_pos c, if_neg (hpos c2), if_pos c3] at hw; exact hw
      · intro v hv; rw [hv, p_s]; rw [if_pos c, if_neg (hpos c2), if_neg c3] at hw; exact hw
/-- a unit that is not at an incident has none -/
def iInc (n : Nat) (xU : St) : Prop := ∀ u, u < n → ¬ xU.1 5 u = 1 → xU.1 6 u = -1
theorem m_there {xR xU xI xW xM : St} (h : Rel xR xU xI xW xM) {n j : Nat} {post : Int32 → Unit → Prop} (hn : xU.2 10 = nI n) (hl : n ≤ 24) (hj : j < 20) (hI : iInc n xU) (hp : post (fCnt (fun u => xU.1 6 u = nI j) n) ()) : wp_M_there xM (nI j) post := by
  refine ⟨n + 1, ?_⟩
  refine p_loop (Wl := fun k b i => wl_M_there_4 xM (nI j) post k b i) (N := n) (step := sCnt (fun u => xU.1 6 u = nI j)) (I := fun _ _ => True) (post := fun b => post b ()) ?_ ?_ (fun _ _ _ _ => trivial) n 0 0 (by omega) trivial hp
  · intro k b _ hp
    refine ⟨fun _ => hp, fun c => ?_⟩
    rw [r_U10 h, hn, p_le (by omega) (by omega)] at c
    omega
  · intro k b i hi _ hw
    refine ⟨fun c => ?_, fun _ => ?_⟩
    · rw [r_U10 h, hn, p_le (by omega) (by omega)] at c
      omega
    · unfold wj_M_there_37 wj_M_there_38
      rw [p_cl (by omega), r_U5 h, r_U6 h]
      unfold sCnt at hw
      have hin := p_in (show i < 24 by omega) (by omega)
      refine ⟨hin, fun c => ?_, fun c => ⟨hin, fun c2 => ?_, fun c2 => ?_⟩⟩
      · intro v hv w hw2
        rw [hv, hw2, p_s, Int32.add_zero]
        rw [if_neg (fun q => by
          have q2 : xU.1 6 i = nI j := q
          rw [hI i hi c] at q2
          exact p_ne1 (by omega) q2.symm)] at hw
        exact hw
      · intro v hv w hw2
        rw [hv, hw2, p_s, Int32.add_zero]
        rw [if_neg c2] at hw
        exact hw
      · intro v hv w hw2
        rw [hv, hw2, p_s]
        rw [if_pos c2] at hw
        exact hw
theorem m_waitingFor {xR xU xI xW xM : St} (h : Rel xR xU xI xW xM) {n : Nat} {a : Int32} {post : Int32 → Unit → Prop} (hn : xW.2 1 = nI n) (hl : n ≤ 30) (hp : post (fCnt (fun u => xW.1 0 u = a) n) ()) : wp_M_waitingFor xM a post := by
  refine ⟨n + 1, ?_⟩
  refine p_loop (Wl := fun k b i => wl_M_waitingFor_4 xM a post k b i) (N := n) (step := sCnt (fun u => xW.1 0 u = a)) (I := fun _ _ => True) (post := fun b => post b ()) ?_ ?_ (fun _ _ _ _ => trivial) n 0 0 (by omega) trivial hp
  · intro k b _ hp
    refine ⟨fun _ => hp, fun c => ?_⟩
    rw [r_W1 h, hn, p_le (by omega) (by omega)] at c
    omega
  · intro k b i hi _ hw
    refine ⟨fun c => ?_, fun _ => ?_⟩
    · rw [r_W1 h, hn, p_le (by omega) (by omega)] at c
      omega
    · unfold wj_M_waitingFor_28
      rw [p_cl (by omega), r_W0 h]
      unfold sCnt at hw
      refine ⟨p_in (by omega) (by omega), fun c => ?_, fun c => ?_⟩
      · intro v hv w hw2
        rw [hv, hw2, p_s, Int32.add_zero]
        rw [if_neg c] at hw
        exact hw
      · intro v hv w hw2
        rw [hv, hw2, p_s]
        rw [if_pos c] at hw
        exact hw
