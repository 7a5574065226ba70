/-! pure rows: incidents and the waiting row -/
theorem p_b0 : vp_nar .boolean (0 : Int32) = 0 := by decide
theorem p_b1 : vp_nar .boolean (1 : Int32) = 1 := by decide
def fMay (x : St) (i : Nat) (sec : Int32) : Prop := ¬ x.1 1 i = 0 ∧ ¬ x.1 2 i = 0 ∧ x.1 4 i = 0 ∧ (x.1 3 i &&& 7) = 7 ∧ ¬ sec < x.1 5 i
theorem p_mayClose {x : St} {i : Nat} {sec : Int32} {post : Int32 → Unit → Prop} (hi : i < 20) (h1 : fMay x i sec → post 1 ()) (h0 : ¬ fMay x i sec → post 0 ()) : wp_I_mayClose x (nI i) sec post := by
  have hin := p_in hi (by omega)
  unfold wp_I_mayClose wj_I_mayClose_55
  rw [p_cl (by omega)]
  refine ⟨hin, fun c => h0 (fun q => q.1 c), fun c1 => ⟨hin, fun c => h0 (fun q => q.2.1 c), fun c2 => ⟨hin, fun c => h0 (fun q => c q.2.2.1), fun c3 => ⟨hin, fun c => h0 (fun q => c q.2.2.2.1), fun c4 => ⟨hin, fun c => h0 (fun q => q.2.2.2.2 c), fun c5 => h1 ⟨c1, c2, c3, c4, c5⟩⟩⟩⟩⟩⟩
def fClose (x : St) (i : Nat) (sec : Int32) : St := sA (sA (sA x 1 i 0) 7 i (x.1 7 i + 1)) 8 i sec
theorem p_close {x : St} {i : Nat} {sec : Int32} {post : St → Prop} (hi : i < 20) (h : post (fClose x i sec)) : wp_I_close x (nI i) sec post := by
  have hin := p_in hi (by omega)
  unfold wp_I_close
  rw [p_cl (by omega), p_b0]
  exact ⟨hin, hin, hin, hin, h⟩
def fOpen (x : St) (i : Nat) : St := sA (sA (sA (sA (sA (sA x 1 i 1) 2 i 0) 3 i 0) 4 i 0) 5 i (-1)) 6 i (x.1 6 i + 1)
theorem p_open {x : St} {i : Nat} {post : St → Prop} (hi : i < 20) (h : post (fOpen x i)) : wp_I_open x (nI i) post := by
  have hin := p_in hi (by omega)
  unfold wp_I_open
  rw [p_cl (by omega), p_b0, p_b1]
  exact ⟨hin, hin, hin, hin, hin, hin, hin, h⟩
def fAddI (x : St) (n : Nat) (p : Int32) : St := sA (sA (sF x 9 (nI (n + 1))) 0 n p) 8 n (-1)
theorem p_addIncident {x : St} {n : Nat} {p : Int32} {post : Int32 → St → Prop} (hn : x.2 9 = nI n) (hl : n < 20) (h : post (nI n) (fAddI x n p)) : wp_I_addIncident x p post := by
  have hin := p_in hl (by omega)
  unfold wp_I_addIncident
  rw [hn, p_s]
  intro v hv
  subst hv
  rw [p_cl (by omega)]
  exact ⟨hin, hin, h⟩
theorem p_hasI {x : St} {a : Int32} {n : Nat} {post : Int32 → Unit → Prop} (hn : x.2 9 = nI n) (hl : n ≤ 20) (h1 : ∀ u, u < n → a = nI u → post 1 ()) (h0 : (¬ ∃ u, u < n ∧ a = nI u) → post 0 ()) : wp_I_has x a post := by
  unfold wp_I_has wj_I_has_16
  rw [hn]
  rcases pk_ix a (n := n) (by omega) with h | h | ⟨u, hu, rfl⟩
  · refine ⟨fun _ => h0 ?_, fun c => absurd h c⟩
    rintro ⟨u, hu, rfl⟩
    exact absurd h (p_neg (by omega))
  · refine ⟨fun c => h0 ?_, fun _ => ⟨fun _ => h0 ?_, fun c => absurd h c⟩⟩
    all_goals
      rintro ⟨u, hu, rfl⟩
      rw [p_le (by omega) (by omega)] at h
      omega
  · refine ⟨fun c => absurd c (p_neg (by omega)), fun _ => ⟨fun c => ?_, fun _ => h1 u hu rfl⟩⟩
    rw [p_le (by omega) (by omega)] at c
    omega
def fLat (x : St) (p : Int32) : Nat → Int32
  | 0 => -1
  | n + 1 => if x.1 0 n = p then nI n else fLat x p n
theorem p_latestOf {x : St} {n : Nat} {p : Int32} {post : Int32 → Unit → Prop} (hn : x.2 9 = nI n) (hl : n ≤ 20) (h : post (fLat x p n) ()) : wp_I_latestOf x p post := by
  have key : ∀ k, k ≤ 20 → post (fLat x p k) () → wl_I_latestOf_7 x p post (k + 1) (nI k - 1) := by
    intro k
    induction k with
    | zero =>
      intro _ hp
      exact ⟨fun _ => hp, fun c => absurd (by decide) c⟩
    | succ k ih =>
      intro hk hp
      rw [nI_pred]
      refine ⟨fun c => absurd c (p_neg (by omega)), fun _ => ?_⟩
      rw [p_cl (by omega)]
      unfold fLat at hp
      refine ⟨p_in (by omega) (by omega), fun c => ?_, fun c => ?_⟩
      · intro v hv
        rw [if_neg c] at hp
        have e : v = nI k - 1 := by rw [hv]; exact (Int32.sub_eq_add_neg (nI k) 1).symm
        rw [e]
        exact ih (by omega) hp
      · rw [if_pos c] at hp
        exact hp
  unfold wp_I_latestOf
  rw [hn]
  intro v hv
  rw [hv]
  exact ⟨n + 1, key n hl h⟩
theorem p_countOpen {x : St} {n : Nat} {post : Int32 → Unit → Prop} (hn : x.2 9 = nI n) (hl : n ≤ 20) (h : post (fCnt (fun u => ¬ x.1 1 u = 0) n) ()) : wp_I_countOpen x post := by
  refine ⟨n + 1, ?_⟩
  refine p_loop (Wl := fun k b i => wl_I_countOpen_4 x post k b i) (N := n) (step := sCnt (fun u => ¬ x.1 1 u = 0)) (I := fun _ _ => True) (post := fun b => post b ()) ?_ ?_ (fun _ _ _ _ => trivial) n 0 0 (by omega) trivial h
  · intro k b _ hp
    refine ⟨fun _ => hp, fun c => ?_⟩
    rw [hn, p_le (by omega) (by omega)] at c
    omega
  · intro k b i hi _ hw
    refine ⟨fun c => ?_, fun _ => ?_⟩
    · rw [hn, p_le (by omega) (by omega)] at c
      omega
    · unfold wj_I_countOpen_24
      rw [p_cl (by omega)]
      unfold sCnt at hw
      refine ⟨p_in (by omega) (by omega), fun c => ?_, fun c => ?_⟩
      · intro v hv; rw [hv, p_s]; rw [if_neg (fun q => q c)] at hw; exact hw
      · intro v hv w hw2; rw [hv, hw2, p_s]; rw [if_pos c] at hw; exact hw
def fAddW (x : St) (w : Nat) (a : Int32) : St := sF (sA x 0 w a) 1 (nI (w + 1))
theorem p_addLast {x : St} {w : Nat} {a : Int32} {post : St → Prop} (hn : x.2 1 = nI w) (hl : w < 30) (h : post (fAddW x w a)) : wp_W_addLast x a post := by
  unfold wp_W_addLast
  rw [show (sA x 0 (x.2 1).toNatClampNeg a).2 1 = x.2 1 from rfl, hn, p_cl (by omega), p_s]
  exact ⟨p_in hl (by omega), h⟩
def fTake (x : St) (w : Nat) : St := sR (sF x 1 (nI w)) 0 (va_cpy (x.1 0) (x.1 0) 1 0 w)
theorem p_takeFirst {x : St} {w : Nat} {post : Int32 → St → Prop} (hn : x.2 1 = nI (w + 1)) (hl : w < 30) (h : post (x.1 0 0) (fTake x w)) : wp_W_takeFirst x post := by
  unfold wp_W_takeFirst
  rw [hn, nI_pred, show (sF x 1 (nI w)).2 1 = nI w from rfl, show (sF x 1 (nI w)).1 0 = x.1 0 from rfl, p_cl (by omega), show (0 : Int32).toNatClampNeg = 0 from rfl, show (1 : Int32).toNatClampNeg = 1 from rfl]
  refine ⟨p_in (u := 0) (by omega) (by omega), ?_⟩
  intro v hv
  subst hv
  exact ⟨⟨by decide, by decide, p_neg (by omega), by omega, by omega⟩, h⟩
theorem p_countFor {x : St} {a : Int32} {n : Nat} {post : Int32 → Unit → Prop} (hn : x.2 1 = nI n) (hl : n ≤ 30) (h : post (fCnt (fun u => x.1 0 u = a) n) ()) : wp_W_countFor x a post := by
  refine ⟨n + 1, ?_⟩
  refine p_loop (Wl := fun k b i => wl_W_countFor_4 x a post k b i) (N := n) (step := sCnt (fun u => x.1 0 u = a)) (I := fun _ _ => True) (post := fun b => post b ()) ?_ ?_ (fun _ _ _ _ => trivial) n 0 0 (by omega) trivial h
  · intro k b _ hp
    refine ⟨fun _ => hp, fun c => ?_⟩
    rw [hn, p_le (by omega) (by omega)] at c
    omega
  · intro k b i hi _ hw
    refine ⟨fun c => ?_, fun _ => ?_⟩
    · rw [hn, p_le (by omega) (by omega)] at c
      omega
    · unfold wj_W_countFor_25
      rw [p_cl (by omega)]
      unfold sCnt at hw
      refine ⟨p_in (by omega) (by omega), fun c => ?_, fun c => ?_⟩
      · intro v hv; rw [hv, p_s]; rw [if_neg c] at hw; exact hw
      · intro v hv w hw2; rw [hv, hw2, p_s]; rw [if_pos c] at hw; exact hw
