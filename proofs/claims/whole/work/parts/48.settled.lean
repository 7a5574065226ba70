/-! settled: nothing more can be so in this second; what the settling does to each unit, and that it settles -/
def gA (xR xU : St) (u : Nat) : Prop := xU.1 5 u = 3 ∧ ¬ xR.2 4 < fWE xU u
def gB (xR xU : St) (u : Nat) : Prop := xU.1 5 u = 4 ∧ ¬ xR.2 4 < fWE xU u ∧ fCan xU (xR.1 3) u
def gC (xU : St) (u : Nat) : Prop := xU.1 5 u = 5 ∧ fTD xU u = 0
/-- unit u can't go on -/
def gN (xR xU : St) (u : Nat) : Prop := ¬ gA xR xU u ∧ ¬ gB xR xU u ∧ ¬ gC xU u
/-- of unit v nothing has changed -/
def eqU (x y : St) (v : Nat) : Prop := (∀ k, k < 9 → y.1 k v = x.1 k v) ∧ ∀ g, g < 6 → y.1 9 (v * 6 + g) = x.1 9 (v * 6 + g)
theorem eqU.rf {x : St} {v : Nat} : eqU x x v := ⟨fun _ _ => rfl, fun _ _ => rfl⟩
theorem eqU.tr {x y z : St} {v : Nat} (h1 : eqU x y v) (h2 : eqU y z v) : eqU x z v := ⟨fun k hk => (h2.1 k hk).trans (h1.1 k hk), fun g hg => (h2.2 g hg).trans (h1.2 g hg)⟩
theorem p_sAn {x : St} {k i v j : Nat} {a : Int32} (h : v ≠ i) : (sA x k i a).1 j v = x.1 j v := by
  by_cases c : j = k
  · subst c
    show (bif Nat.beq j j then upd (x.1 j) i a else x.1 j) v = x.1 j v
    rw [show Nat.beq j j = true from Nat.beq_refl j]
    exact pk_un h
  · show (bif Nat.beq j k then upd (x.1 k) i a else x.1 j) v = x.1 j v
    rw [show Nat.beq j k = false from by
      cases e : Nat.beq j k
      · rfl
      · exact absurd (Nat.eq_of_beq_eq_true e) c]
    rfl
theorem p_sAk {x : St} {k i v j : Nat} {a : Int32} (h : j ≠ k) : (sA x k i a).1 j v = x.1 j v := by
  show (bif Nat.beq j k then upd (x.1 k) i a else x.1 j) v = x.1 j v
  rw [show Nat.beq j k = false from by
    cases e : Nat.beq j k
    · rfl
    · exact absurd (Nat.eq_of_beq_eq_true e) h]
  rfl
theorem p_bec_ne {x : St} {u v : Nat} {st sec : Int32} (h : v ≠ u) : eqU x (fBec x u st sec) v := by
  unfold fBec
  refine ⟨fun k _ => ?_, fun g hg => ?_⟩
  · rw [p_sAn h, p_sAn h, p_sAn h]
  · rw [p_sAk (by omega), p_sAk (by omega), p_sAk (by omega)]
theorem p_sA_ne {x : St} {u v k : Nat} {a : Int32} (h : v ≠ u) (hk : k ≠ 9) : eqU x (sA x k u a) v := ⟨fun _ _ => p_sAn h, fun g _ => p_sAk (fun e => hk e.symm)⟩
theorem p_ref_ne {u v : Nat} (h : v ≠ u) : ∀ (k i : Nat) (s : St × (Nat → Int32)), i + k = 6 → eqU s.1 (fF (fRefS u) k i s).1 v := by
  intro k
  induction k with
  | zero => intro i s _; exact eqU.rf
  | succ k ih =>
    intro i s hik
    refine eqU.tr ?_ (ih (i + 1) (fRefS u i s) (by omega))
    unfold fRefS
    refine ⟨fun k hk => p_sAk (by omega), fun g hg => p_sAn (by omega)⟩
theorem p_go_ne {x : St} {f : Nat → Int32} {u v : Nat} {sec : Int32} (h : v ≠ u) : eqU x (fGo (x, f) u sec).1 v := by
  have h1 : eqU x (fGo1 x u sec) v := by
    unfold fGo1
    split
    · exact p_bec_ne h
    · exact eqU.rf
  have h2 : ∀ s : St × (Nat → Int32), eqU s.1 (fGo2 s u sec).1 v := by
    intro s
    unfold fGo2
    by_cases c : s.1.1 5 u = 4 ∧ ¬ sec < fWE s.1 u ∧ fCan s.1 s.2 u
    · rw [if_pos c]
      exact eqU.tr (eqU.tr (p_ref_ne h 6 0 s rfl) (p_sA_ne h (by omega))) (p_bec_ne h)
    · rw [if_neg c]; exact eqU.rf
  have h3 : ∀ y : St, eqU y (fGo3 y u sec) v := by
    intro y
    unfold fGo3
    split
    · exact p_bec_ne h
    · exact eqU.rf
  exact eqU.tr (eqU.tr h1 (h2 (fGo1 x u sec, f))) (h3 _)
/-- behind its going on, a unit can't go on -/
theorem p_go_self {xR xU : St} {u : Nat} : gN (sU u (xR, xU)).1 (sU u (xR, xU)).2 u := by
  have is3 : ∀ (r x : St), x.1 5 u = 0 → gN r x u := by
    intro r x e
    refine ⟨fun q => ?_, fun q => ?_, fun q => ?_⟩
    · have z := q.1; rw [e] at z; exact absurd z (by decide)
    · have z := q.1; rw [e] at z; exact absurd z (by decide)
    · have z := q.1; rw [e] at z; exact absurd z (by decide)
  have st3 : ∀ (r x : St), r.2 4 = xR.2 4 → ¬ gA r x u → ¬ gB r x u → gN r (fGo3 x u (xR.2 4)) u := by
    intro r x _ nA nB
    by_cases c : x.1 5 u = 5 ∧ fTD x u = 0
    · rw [show fGo3 x u (xR.2 4) = fBec x u 0 (xR.2 4) from if_pos c]
      exact is3 _ _ p_becIs
    · rw [show fGo3 x u (xR.2 4) = x from if_neg c]
      exact ⟨nA, nB, c⟩
  have st2 : ∀ x : St, ¬ (x.1 5 u = 3 ∧ ¬ xR.2 4 < fWE x u) → gN (sR xR 3 (fGo2 (x, xR.1 3) u (xR.2 4)).2) (fGo3 (fGo2 (x, xR.1 3) u (xR.2 4)).1 u (xR.2 4)) u := by
    intro x nA
    by_cases c : x.1 5 u = 4 ∧ ¬ xR.2 4 < fWE x u ∧ fCan x (xR.1 3) u
    · rw [show fGo2 (x, xR.1 3) u (xR.2 4) = (fBec (sA (fRef u (x, xR.1 3)).1 4 u 0) u 5 (xR.2 4), (fRef u (x, xR.1 3)).2) from if_pos c]
      have is5 : (fBec (sA (fRef u (x, xR.1 3)).1 4 u 0) u 5 (xR.2 4)).1 5 u = 5 := p_becIs
      refine st3 _ _ rfl (fun q => ?_) (fun q => ?_)
      · have z := q.1; rw [is5] at z; exact absurd z (by decide)
      · have z := q.1; rw [is5] at z; exact absurd z (by decide)
    · rw [show fGo2 (x, xR.1 3) u (xR.2 4) = (x, xR.1 3) from if_neg c]
      exact st3 _ _ rfl nA c
  show gN (sR xR 3 (fGo2 (fGo1 xU u (xR.2 4), xR.1 3) u (xR.2 4)).2) (fGo3 (fGo2 (fGo1 xU u (xR.2 4), xR.1 3) u (xR.2 4)).1 u (xR.2 4)) u
  by_cases c : xU.1 5 u = 3 ∧ ¬ xR.2 4 < fWE xU u
  · have is4 : (fBec xU u 4 (xR.2 4)).1 5 u = 4 := p_becIs
    rw [show fGo1 xU u (xR.2 4) = fBec xU u 4 (xR.2 4) from if_pos c]
    refine st2 _ (fun q => ?_)
    have z := q.1; rw [is4] at z; exact absurd z (by decide)
  · rw [show fGo1 xU u (xR.2 4) = xU from if_neg c]
    exact st2 _ c
/-- numbers between bounds -/
def inR (x : Int32) (a b : Int) : Prop := a ≤ x.toInt ∧ x.toInt ≤ b
theorem p_sub_toInt {x y : Int32} {b : Int} (hx : inR x 0 b) (hy : inR y 0 b) (hb : b ≤ 1000000000) : (x - y).toInt = x.toInt - y.toInt := by
  obtain ⟨h1, h2⟩ := hx
  obtain ⟨h3, h4⟩ := hy
  rw [Int32.toInt_sub]
  exact Int.bmod_eq_of_le (by omega) (by omega)
theorem p_add_toInt {x y : Int32} {a b : Int} (hx : inR x a b) (hy : inR y a b) (ha : -1000000000 ≤ a) (hb : b ≤ 1000000000) : (x + y).toInt = x.toInt + y.toInt := by
  obtain ⟨h1, h2⟩ := hx
  obtain ⟨h3, h4⟩ := hy
  rw [Int32.toInt_add]
  exact Int.bmod_eq_of_le (by omega) (by omega)
/-- stocks and what was used, between bounds -/
def iSt (f : Nat → Int32) : Prop := ∀ g, g < 6 → inR (f g) 0 10000000
def iUs (x : St) : Prop := ∀ k, k < 144 → inR (x.1 9 k) 0 100000
def leF (f g : Nat → Int32) : Prop := ∀ k, k < 6 → f k ≤ g k
theorem leF.rf {f : Nat → Int32} : leF f f := fun _ _ => Int32.le_refl _
theorem leF.tr {f g h : Nat → Int32} (a : leF f g) (b : leF g h) : leF f h := fun k hk => Int32.le_trans (a k hk) (b k hk)
theorem p_ref_le {u : Nat} (hu : u < 24) : ∀ (k i : Nat) (s : St × (Nat → Int32)), i + k = 6 → iSt s.2 → iUs s.1 → (∀ g, i ≤ g → g < 6 → s.1.1 9 (u * 6 + g) ≤ s.2 g) → iSt (fF (fRefS u) k i s).2 ∧ iUs (fF (fRefS u) k i s).1 ∧ leF (fF (fRefS u) k i s).2 s.2 := by
  intro k
  induction k with
  | zero => intro i s _ h1 h2 _; exact ⟨h1, h2, leF.rf⟩
  | succ k ih =>
    intro i s hik h1 h2 h3
    have hx := h1 i (by omega)
    have hy := h2 (u * 6 + i) (by omega)
    have hle := Int32.le_iff_toInt_le.mp (h3 i (Nat.le_refl i) (by omega))
    have hsub : (s.2 i - s.1.1 9 (u * 6 + i)).toInt = (s.2 i).toInt - (s.1.1 9 (u * 6 + i)).toInt := p_sub_toInt (b := 10000000) hx ⟨hy.1, by have := hy.2; omega⟩ (by omega)
    have a1 : iSt (fRefS u i s).2 := by
      intro g hg
      show inR (upd s.2 i _ g) 0 10000000
      by_cases c : g = i
      · subst c
        rw [pk_us]
        refine ⟨?_, ?_⟩ <;> rw [hsub]
        · omega
        · have := hx.2; have := hy.1; omega
      · rw [pk_un c]; exact h1 g hg
    have a2 : iUs (fRefS u i s).1 := by
      intro g hg
      show inR (upd (s.1.1 9) (u * 6 + i) 0 g) 0 100000
      by_cases c : g = u * 6 + i
      · subst c
        rw [pk_us]
        exact ⟨by decide, by decide⟩
      · rw [pk_un c]; exact h2 g hg
    have a3 : leF (fRefS u i s).2 s.2 := by
      intro g hg
      show upd s.2 i _ g ≤ s.2 g
      by_cases c : g = i
      · subst c
        rw [pk_us, Int32.le_iff_toInt_le, hsub]
        have := hy.1
        omega
      · rw [pk_un c]; exact Int32.le_refl _
    have a4 : ∀ g, i + 1 ≤ g → g < 6 → (fRefS u i s).1.1 9 (u * 6 + g) ≤ (fRefS u i s).2 g := by
      intro g hg1 hg2
      show upd (s.1.1 9) (u * 6 + i) 0 (u * 6 + g) ≤ upd s.2 i _ g
      rw [pk_un (by omega), pk_un (by omega)]
      exact h3 g (by omega) hg2
    obtain ⟨b1, b2, b3⟩ := ih (i + 1) (fRefS u i s) (by omega) a1 a2 a4
    exact ⟨b1, b2, b3.tr a3⟩
