/-! pure rows: a unit goes on; all units go on -/
def fGo1 (x : St) (u : Nat) (sec : Int32) : St := if x.1 5 u = 3 ∧ ¬ sec < fWE x u then fBec x u 4 sec else x
noncomputable def fGo2 (s : St × (Nat → Int32)) (u : Nat) (sec : Int32) : St × (Nat → Int32) := @ite _ (s.1.1 5 u = 4 ∧ ¬ sec < fWE s.1 u ∧ fCan s.1 s.2 u) (Classical.propDecidable _) (fBec (sA (fRef u s).1 4 u 0) u 5 sec, (fRef u s).2) s
def fGo3 (x : St) (u : Nat) (sec : Int32) : St := if x.1 5 u = 5 ∧ fTD x u = 0 then fBec x u 0 sec else x
noncomputable def fGo (s : St × (Nat → Int32)) (u : Nat) (sec : Int32) : St × (Nat → Int32) := (fGo3 (fGo2 (fGo1 s.1 u sec, s.2) u sec).1 u sec, (fGo2 (fGo1 s.1 u sec, s.2) u sec).2)
theorem p_go3 {x y : St} {f g : Nat → Int32} {u : Nat} {sec : Int32} {post : St × (Nat → Int32) → Prop} (hu : u < 24) (h : post (fGo3 y u sec, g)) : wj_U_goOn_74 x f (nI u) sec post y g := by
  have hi := p_in hu (by omega)
  unfold wj_U_goOn_74
  rw [p_cl (by omega)]
  unfold fGo3 at h
  refine ⟨hi, fun c => ?_, fun c => p_checksToDo hu ⟨fun c2 => ?_, fun c2 => p_become hu ?_⟩⟩
  · rw [if_neg (fun q => c q.1)] at h; exact h
  · rw [if_neg (fun q => c2 q.2)] at h; exact h
  · rw [if_pos ⟨c, c2⟩] at h; exact h
theorem p_go2 {x y : St} {f g : Nat → Int32} {u : Nat} {sec : Int32} {post : St × (Nat → Int32) → Prop} (hu : u < 24) (h : post (fGo3 (fGo2 (y, g) u sec).1 u sec, (fGo2 (y, g) u sec).2)) : wj_U_goOn_26 x f (nI u) sec post y g := by
  have hi := p_in hu (by omega)
  unfold wj_U_goOn_26
  rw [p_cl (by omega)]
  unfold fGo2 at h
  have no : ¬ (y.1 5 u = 4 ∧ ¬ sec < fWE y u ∧ fCan y g u) → wj_U_goOn_74 x f (nI u) sec post y g := fun q => p_go3 hu (by rw [if_neg q] at h; exact h)
  refine ⟨hi, fun c => no (fun q => c q.1), fun c => p_workEnd hu ⟨fun c2 => no (fun q => q.2.1 c2), fun c2 => p_canRefill hu (fun c3 => ?_) (fun c3 => ⟨fun _ => no (fun q => c3 q.2.2), fun q => absurd rfl q⟩)⟩⟩
  refine ⟨fun q => absurd q (by decide), fun _ => p_refill hu ⟨hi, p_become hu (p_go3 hu ?_)⟩⟩
  rw [if_pos ⟨c, c2, c3⟩] at h
  exact h
theorem p_goOn {x : St} {f : Nat → Int32} {u : Nat} {sec : Int32} {post : St × (Nat → Int32) → Prop} (hu : u < 24) (h : post (fGo (x, f) u sec)) : wp_U_goOn x f (nI u) sec post := by
  have hi := p_in hu (by omega)
  unfold wp_U_goOn
  rw [p_cl (by omega)]
  unfold fGo fGo1 at h
  refine ⟨hi, fun c => p_go2 hu ?_, fun c => p_workEnd hu ⟨fun c2 => p_go2 hu ?_, fun c2 => p_become hu (p_go2 hu ?_)⟩⟩
  · rw [if_neg (fun q => c q.1)] at h; exact h
  · rw [if_neg (fun q => q.2 c2)] at h; exact h
  · rw [if_pos ⟨c, c2⟩] at h; exact h
-- nearest ready, farthest at a place, counts
def sNear (x : St) (u : Nat) (b : Int32) : Int32 := if x.1 5 u = 0 then (if b = -1 then nI u else if x.1 0 b.toNatClampNeg ≤ x.1 0 u then b else nI u) else b
def fNear (x : St) (n : Nat) : Int32 := fF (sNear x) n 0 (-1)
def iBest (P : Nat → Prop) (n : Nat) (b : Int32) : Prop := b = -1 ∨ ∃ v, v < n ∧ P v ∧ b = nI v
theorem p_nearI {x : St} {b : Int32} {i : Nat} (h : iBest (fun v => x.1 5 v = 0) i b) : iBest (fun v => x.1 5 v = 0) (i + 1) (sNear x i b) := by
  have up : iBest (fun v => x.1 5 v = 0) (i + 1) b := by
    rcases h with h | ⟨v, hv, h1, h2⟩
    · exact Or.inl h
    · exact Or.inr ⟨v, by omega, h1, h2⟩
  unfold sNear
  by_cases c : x.1 5 i = 0
  · rw [if_pos c]
    by_cases c2 : b = -1
    · rw [if_pos c2]; exact Or.inr ⟨i, by omega, c, rfl⟩
    · rw [if_neg c2]
      by_cases c3 : x.1 0 b.toNatClampNeg ≤ x.1 0 i
      · rw [if_pos c3]; exact up
      · rw [if_neg c3]; exact Or.inr ⟨i, by omega, c, rfl⟩
  · rw [if_neg c]; exact up
theorem p_near_in {x : St} {n : Nat} : iBest (fun v => x.1 5 v = 0) n (fNear x n) := p_fFI (I := fun i b => iBest (fun v => x.1 5 v = 0) i b) (fun b i _ h => p_nearI h) n 0 (-1) (by omega) (Or.inl rfl)
theorem p_nearest {x : St} {n : Nat} {post : Int32 → Unit → Prop} (hn : x.2 10 = nI n) (hl : n ≤ 24) (h : post (fNear x n) ()) : wp_U_nearestReady x post := by
  refine ⟨n + 1, ?_⟩
  refine p_loop (Wl := fun k b i => wl_U_nearestReady_4 x post k b i) (N := n) (step := sNear x) (I := fun i b => iBest (fun v => x.1 5 v = 0) i b) (post := fun b => post b ()) ?_ ?_ (fun b i _ q => p_nearI q) n 0 (-1) (by omega) (Or.inl rfl) h
  · intro k b _ hp
    refine ⟨fun _ => hp, fun c => ?_⟩
    rw [hn, p_le (by omega) (by omega)] at c
    omega
  · intro k b i hi hb hw
    have hin := p_in (show i < 24 by omega) (by omega)
    refine ⟨fun c => ?_, fun _ => ?_⟩
    · rw [hn, p_le (by omega) (by omega)] at c
      omega
    · unfold wj_U_nearestReady_41 wj_U_nearestReady_43
      rw [p_cl (by omega)]
      unfold sNear at hw
      refine ⟨hin, fun c => ?_, fun c => ⟨fun c2 => ?_, fun c2 => ⟨hin, ?_, fun c3 => ?_, fun c3 => ?_⟩⟩⟩
      · intro v hv; rw [hv, p_s]; rw [if_neg c] at hw; exact hw
      · intro v hv; rw [hv, p_s]; rw [if_pos c, if_pos c2] at hw; exact hw
      · rcases hb with q | ⟨v, hv, -, q⟩
        · exact absurd q c2
        · rw [q]; exact p_in (by omega) (by omega)
      · intro v hv; rw [hv, p_s]; rw [if_pos c, if_neg c2, if_pos c3] at hw; exact hw
      · intro v hv; rw [hv, p_s]; rw [if_pos c, if_neg c2, if_neg c3] at hw; exact hw
def sFar (x : St) (a : Int32) (u : Nat) (b : Int32) : Int32 := if x.1 6 u = a then (if b = -1 then nI u else if x.1 0 u ≤ x.1 0 b.toNatClampNeg then b else nI u) else b
def fFar (x : St) (a : Int32) (n : Nat) : Int32 := fF (sFar x a) n 0 (-1)
theorem p_farI {x : St} {a b : Int32} {i : Nat} (h : iBest (fun v => x.1 6 v = a) i b) : iBest (fun v => x.1 6 v = a) (i + 1) (sFar x a i b) := by
  have up : iBest (fun v => x.1 6 v = a) (i + 1) b := by
    rcases h with h | ⟨v, hv, h1, h2⟩
    · exact Or.inl h
    · exact Or.inr ⟨v, by omega, h1, h2⟩
  unfold sFar
  by_cases c : x.1 6 i = a
  · rw [if_pos c]
    by_cases c2 : b = -1
    · rw [if_pos c2]; exact Or.inr ⟨i, by omega, c, rfl⟩
    · rw [if_neg c2]
      by_cases c3 : x.1 0 i ≤ x.1 0 b.toNatClampNeg
      · rw [if_pos c3]; exact up
      · rw [if_neg c3]; exact Or.inr ⟨i, by omega, c, rfl⟩
  · rw [if_neg c]; exact up
theorem p_far_in {x : St} {a : Int32} {n : Nat} : iBest (fun v => x.1 6 v = a) n (fFar x a n) := p_fFI (I := fun i b => iBest (fun v => x.1 6 v = a) i b) (fun b i _ h => p_farI h) n 0 (-1) (by omega) (Or.inl rfl)
theorem p_farthest {x : St} {a : Int32} {n : Nat} {post : Int32 → Unit → Prop} (hn : x.2 10 = nI n) (hl : n ≤ 24) (h : post (fFar x a n) ()) : wp_U_farthestAt x a post := by
  refine ⟨n + 1, ?_⟩
  refine p_loop (Wl := fun k b i => wl_U_farthestAt_4 x a post k b i) (N := n) (step := sFar x a) (I := fun i b => iBest (fun v => x.1 6 v = a) i b) (post := fun b => post b ()) ?_ ?_ (fun b i _ q => p_farI q) n 0 (-1) (by omega) (Or.inl rfl) h
  · intro k b _ hp
    refine ⟨fun _ => hp, fun c => ?_⟩
    rw [hn, p_le (by omega) (by omega)] at c
    omega
  · intro k b i hi hb hw
    have hin := p_in (show i < 24 by omega) (by omega)
    refine ⟨fun c => ?_, fun _ => ?_⟩
    · rw [hn, p_le (by omega) (by omega)] at c
      omega
    · unfold wj_U_farthestAt_42 wj_U_farthestAt_44
      rw [p_cl (by omega)]
      unfold sFar at hw
      refine ⟨hin, fun c => ?_, fun c => ⟨fun c2 => ?_, fun c2 => ⟨hin, ?_, fun c3 => ?_, fun c3 => ?_⟩⟩⟩
      · intro v hv; rw [hv, p_s]; rw [if_neg c] at hw; exact hw
      · intro v hv; rw [hv, p_s]; rw [if_pos c, if_pos c2] at hw; exact hw
      · rcases hb with q | ⟨v, hv, -, q⟩
        · exact absurd q c2
        · rw [q]; exact p_in (by omega) (by omega)
      · intro v hv; rw [hv, p_s]; rw [if_pos c, if_neg c2, if_pos c3] at hw; exact hw
      · intro v hv; rw [hv, p_s]; rw [if_pos c, if_neg c2, if_neg c3] at hw; exact hw
noncomputable def sCnt (P : Nat → Prop) (u : Nat) (n : Int32) : Int32 := @ite _ (P u) (Classical.propDecidable _) (n + 1) n
noncomputable def fCnt (P : Nat → Prop) (n : Nat) : Int32 := fF (sCnt P) n 0 0
theorem p_countAt {x : St} {a : Int32} {n : Nat} {post : Int32 → Unit → Prop} (hn : x.2 10 = nI n) (hl : n ≤ 24) (h : post (fCnt (fun u => x.1 6 u = a) n) ()) : wp_U_countAt x a post := by
  refine ⟨n + 1, ?_⟩
  refine p_loop (Wl := fun k b i => wl_U_countAt_4 x a post k b i) (N := n) (step := sCnt (fun u => x.1 6 u = a)) (I := fun _ _ => True) (post := fun b => post b ()) ?_ ?_ (fun _ _ _ _ => trivial) n 0 0 (by omega) trivial h
  · intro k b _ hp
    refine ⟨fun _ => hp, fun c => ?_⟩
    rw [hn, p_le (by omega) (by omega)] at c
    omega
  · intro k b i hi _ hw
    refine ⟨fun c => ?_, fun _ => ?_⟩
    · rw [hn, p_le (by omega) (by omega)] at c
      omega
    · unfold wj_U_countAt_25
      rw [p_cl (by omega)]
      unfold sCnt at hw
      refine ⟨p_in (by omega) (by omega), fun c => ?_, fun c => ?_⟩
      · intro v hv; rw [hv, p_s]; rw [if_neg c] at hw; exact hw
      · intro v hv w hw2; rw [hv, hw2, p_s]; rw [if_pos c] at hw; exact hw
theorem p_countReady {x : St} {n : Nat} {post : Int32 → Unit → Prop} (hn : x.2 10 = nI n) (hl : n ≤ 24) (h : post (fCnt (fun u => x.1 5 u = 0) n) ()) : wp_U_countReady x post := by
  refine ⟨n + 1, ?_⟩
  refine p_loop (Wl := fun k b i => wl_U_countReady_4 x post k b i) (N := n) (step := sCnt (fun u => x.1 5 u = 0)) (I := fun _ _ => True) (post := fun b => post b ()) ?_ ?_ (fun _ _ _ _ => trivial) n 0 0 (by omega) trivial h
  · intro k b _ hp
    refine ⟨fun _ => hp, fun c => ?_⟩
    rw [hn, p_le (by omega) (by omega)] at c
    omega
  · intro k b i hi _ hw
    refine ⟨fun c => ?_, fun _ => ?_⟩
    · rw [hn, p_le (by omega) (by omega)] at c
      omega
    · unfold wj_U_countReady_24
      rw [p_cl (by omega)]
      unfold sCnt at hw
      refine ⟨p_in (by omega) (by omega), fun c => ?_, fun c => ?_⟩
      · intro v hv; rw [hv, p_s]; rw [if_neg c] at hw; exact hw
      · intro v hv w hw2; rw [hv, hw2, p_s]; rw [if_pos c] at hw; exact hw
