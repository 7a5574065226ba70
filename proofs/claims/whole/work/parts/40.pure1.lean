/-! pure rows: numbers, loops; then the units' methods as functions -/
theorem p_in {u n : Nat} (h : u < n) (hn : n ≤ 1000) : vp_in (nI u) n := vp_in_nI h (by omega)
theorem p_cl {u : Nat} (h : u < 1000) : (nI u).toNatClampNeg = u := nI_clamp (by omega)
theorem p_le {a b : Nat} (ha : a < 1000) (hb : b < 1000) : nI a ≤ nI b ↔ a ≤ b := nI_leI (by omega) (by omega)
theorem p_ne1 {a : Nat} (ha : a < 1000) : ¬ nI a = -1 := by
  intro h
  have h1 : (nI a).toInt = (-1 : Int32).toInt := by rw [h]
  rw [nI_toInt (by omega)] at h1
  have h2 : (-1 : Int32).toInt = -1 := by decide
  omega
theorem p_neg {a : Nat} (ha : a < 1000) : ¬ nI a < 0 := nI_pos (by omega)
theorem p_6 {u g : Nat} : nI u * (6 : Int32) + nI g = nI (u * 6 + g) := by
  rw [show (6 : Int32) = nI 6 from rfl, pk_mul, nI_add]
theorem p_6' {u g : Nat} : (6 : Int32) * nI u + nI g = nI (u * 6 + g) := by
  rw [show (6 : Int32) = nI 6 from rfl, pk_mul, nI_add, Nat.mul_comm]
theorem p_s (a : Nat) : nI a + 1 = nI (a + 1) := nI_1 a
/-- a loop's turns as a function -/
def fF {σ : Type} (step : Nat → σ → σ) : Nat → Nat → σ → σ
  | 0, _, s => s
  | k + 1, i, s => fF step k (i + 1) (step i s)
theorem p_loop {σ : Type} {Wl : Nat → σ → Int32 → Prop} {N : Nat} {step : Nat → σ → σ} {I : Nat → σ → Prop} {post : σ → Prop}
    (hend : ∀ n s, I N s → post s → Wl (n + 1) s (nI N))
    (hstep : ∀ n s i, i < N → I i s → Wl n (step i s) (nI (i + 1)) → Wl (n + 1) s (nI i))
    (hI : ∀ s i, i < N → I i s → I (i + 1) (step i s)) :
    ∀ (k i : Nat) (s : σ), i + k = N → I i s → post (fF step k i s) → Wl (k + 1) s (nI i) := by
  intro k
  induction k with
  | zero =>
    intro i s h hi hp
    have e : i = N := by omega
    subst e
    exact hend 0 s hi hp
  | succ k ih =>
    intro i s h hi hp
    exact hstep (k + 1) s i (by omega) hi (ih (i + 1) (step i s) (by omega) (hI s i (by omega) hi) hp)
theorem p_fFI {σ : Type} {N : Nat} {step : Nat → σ → σ} {I : Nat → σ → Prop} (hI : ∀ s i, i < N → I i s → I (i + 1) (step i s)) : ∀ (k i : Nat) (s : σ), i + k = N → I i s → I N (fF step k i s) := by
  intro k
  induction k with
  | zero =>
    intro i s h hi
    have e : i = N := by omega
    subst e
    exact hi
  | succ k ih =>
    intro i s h hi
    exact ih (i + 1) (step i s) (by omega) (hI s i (by omega) hi)
-- units: become, workEnd, checksToDo
def fBec (x : St) (u : Nat) (st sec : Int32) : St := sA (sA (sA x 5 u st) 6 u (-1)) 7 u sec
theorem p_become {x : St} {u : Nat} {st sec : Int32} {post : St → Prop} (hu : u < 24) (h : post (fBec x u st sec)) : wp_U_become x (nI u) st sec post := by
  have hi := p_in hu (by omega)
  unfold wp_U_become
  rw [p_cl (by omega)]
  exact ⟨hi, hi, hi, h⟩
def fWE (x : St) (u : Nat) : Int32 := if x.1 5 u = 3 then x.1 7 u + x.1 1 u else if x.1 5 u = 4 then x.1 7 u + x.1 2 u else -1
theorem p_workEnd {x : St} {u : Nat} {post : Int32 → Unit → Prop} (hu : u < 24) (h : post (fWE x u) ()) : wp_U_workEnd x (nI u) post := by
  have hi := p_in hu (by omega)
  unfold wp_U_workEnd
  rw [p_cl (by omega)]
  unfold fWE at h
  refine ⟨hi, fun c3 => ⟨hi, fun c4 => ?_, fun c4 => ⟨hi, hi, ?_⟩⟩, fun c3 => ⟨hi, hi, ?_⟩⟩
  · rw [if_neg c3, if_neg c4] at h; exact h
  · rw [if_neg c3, if_pos c4] at h; exact h
  · rw [if_pos c3] at h; exact h
def fTD (x : St) (u : Nat) : Int32 := x.1 3 u &&& (x.1 4 u ^^^ (-1))
theorem p_checksToDo {x : St} {u : Nat} {post : Int32 → Unit → Prop} (hu : u < 24) (h : post (fTD x u) ()) : wp_U_checksToDo x (nI u) post := by
  have hi := p_in hu (by omega)
  unfold wp_U_checksToDo
  rw [p_cl (by omega)]
  exact ⟨hi, hi, h⟩
-- units: has, addUnit, setWork, goTo
theorem p_hasU {x : St} {a : Int32} {n : Nat} {post : Int32 → Unit → Prop} (hn : x.2 10 = nI n) (hl : n ≤ 24) (h1 : ∀ u, u < n → a = nI u → post 1 ()) (h0 : (¬ ∃ u, u < n ∧ a = nI u) → post 0 ()) : wp_U_has x a post := by
  unfold wp_U_has wj_U_has_16
  rw [hn]
  rcases pk_ix a (n := n) (by omega) with h | h | ⟨u, hu, rfl⟩
  · refine ⟨fun _ => h0 ?_, fun c => absurd h c⟩
    rintro ⟨u, hu, rfl⟩
    exact absurd h (p_neg (by omega))
  · refine ⟨fun c => h0 ?_, fun _ => ⟨fun _ => h0 ?_, fun c => absurd h c⟩⟩
    all_goals
      rintro ⟨u, hu, rfl⟩
      rw [p_le (by omega) (by omega)] at h
      omega
  · refine ⟨fun c => absurd c (p_neg (by omega)), fun _ => ⟨fun c => ?_, fun _ => h1 u hu rfl⟩⟩
    rw [p_le (by omega) (by omega)] at c
    omega
def fAdd (x : St) (n : Nat) (h sec : Int32) : St := fBec (sA (sF x 10 (nI (n + 1))) 0 n h) n 0 sec
theorem p_addUnit {x : St} {n : Nat} {h sec : Int32} {post : Int32 → St → Prop} (hn : x.2 10 = nI n) (hl : n < 24) (hp : post (nI n) (fAdd x n h sec)) : wp_U_addUnit x h sec post := by
  unfold wp_U_addUnit
  rw [hn, p_s]
  intro v hv
  subst hv
  refine ⟨p_in hl (by omega), ?_⟩
  rw [p_cl (by omega)]
  exact p_become hl hp
def fWork (x : St) (u : Nat) (c r k : Int32) : St := sA (sA (sA x 1 u c) 2 u r) 3 u k
theorem p_setWork {x : St} {u : Nat} {c r k : Int32} {post : St → Prop} (hu : u < 24) (h : post (fWork x u c r k)) : wp_U_setWork x (nI u) c r k post := by
  have hi := p_in hu (by omega)
  unfold wp_U_setWork
  rw [p_cl (by omega)]
  exact ⟨hi, hi, hi, h⟩
def fGoTo (x : St) (u : Nat) (i sec : Int32) : St := sA (sA (fBec x u 1 sec) 6 u i) 8 u (x.1 8 u + 1)
theorem p_goTo {x : St} {u : Nat} {i sec : Int32} {post : St → Prop} (hu : u < 24) (h : post (fGoTo x u i sec)) : wp_U_goTo x (nI u) i sec post := by
  have hi := p_in hu (by omega)
  unfold wp_U_goTo
  refine p_become hu ?_
  rw [p_cl (by omega)]
  exact ⟨hi, hi, hi, h⟩
-- units: canRefill, refill, goOn
def fCan (x : St) (f : Nat → Int32) (u : Nat) : Prop := ∀ g, g < 6 → x.1 9 (u * 6 + g) ≤ f g
theorem p_canRefill {x : St} {f : Nat → Int32} {u : Nat} {post : Int32 → Unit → Prop} (hu : u < 24) (h1 : fCan x f u → post 1 ()) (h0 : ¬ fCan x f u → post 0 ()) : wp_U_canRefill x f (nI u) post := by
  have key : ∀ k i, i + k = 6 → (∀ g, g < i → x.1 9 (u * 6 + g) ≤ f g) → wl_U_canRefill_2 x f (nI u) post (k + 1) (nI i) := by
    intro k
    induction k with
    | zero =>
      intro i hi hok
      have e : i = 6 := by omega
      subst e
      exact ⟨fun _ => h1 hok, fun c => absurd (by decide) c⟩
    | succ k ih =>
      intro i hi hok
      refine ⟨fun c => ?_, fun _ => ?_⟩
      · rw [show (6 : Int32) = nI 6 from rfl, p_le (by omega) (by omega)] at c
        omega
      · rw [p_6, p_cl (by omega), p_cl (by omega)]
        refine ⟨p_in (by omega) (by omega), p_in (by omega) (by omega), fun c => ?_, fun c => h0 (fun hc => c (hc i (by omega)))⟩
        intro v hv
        rw [hv, p_s]
        exact ih (i + 1) (by omega) (lt_s hok c)
  exact ⟨7, key 6 0 rfl (fun g h => absurd h (Nat.not_lt_zero g))⟩
def fRefS (u : Nat) (g : Nat) (s : St × (Nat → Int32)) : St × (Nat → Int32) := (sA s.1 9 (u * 6 + g) 0, upd s.2 g (s.2 g - s.1.1 9 (u * 6 + g)))
def fRef (u : Nat) (s : St × (Nat → Int32)) : St × (Nat → Int32) := fF (fRefS u) 6 0 s
theorem p_refill {x : St} {f : Nat → Int32} {u : Nat} {post : St × (Nat → Int32) → Prop} (hu : u < 24) (h : post (fRef u (x, f))) : wp_U_refill x f (nI u) post := by
  refine ⟨7, ?_⟩
  refine p_loop (Wl := fun n s i => wl_U_refill_2 x f (nI u) post n s.1 s.2 i) (N := 6) (step := fRefS u) (I := fun _ _ => True) (post := post) ?_ ?_ (fun _ _ _ _ => trivial) 6 0 (x, f) rfl trivial h
  · intro n s _ hp
    exact ⟨fun _ => hp, fun c => absurd (by decide) c⟩
  · intro n s i hi _ hw
    refine ⟨fun c => ?_, fun _ => ?_⟩
    · rw [show (6 : Int32) = nI 6 from rfl, p_le (by omega) (by omega)] at c
      omega
    · rw [p_6, p_cl (by omega), p_cl (by omega)]
      refine ⟨p_in (by omega) (by omega), p_in (by omega) (by omega), p_in (by omega) (by omega), p_in (by omega) (by omega), ?_⟩
      intro v hv
      rw [hv, p_s]
      exact hw
