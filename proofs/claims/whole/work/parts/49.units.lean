/-! the units' part of the invariant, through the settling of all units -/
def iUn (n : Nat) (sec : Int32) (x : St) : Prop := (∀ u, u < n → inR (x.1 1 u) 0 10000 ∧ inR (x.1 2 u) 0 10000 ∧ 0 ≤ (x.1 7 u).toInt ∧ (x.1 7 u).toInt ≤ sec.toInt) ∧ iInc n x ∧ (∀ u, n ≤ u → u < 24 → x.1 5 u = 0) ∧ iUs x
theorem p_weE {x y : St} {v : Nat} (e : eqU x y v) : fWE y v = fWE x v := by
  unfold fWE
  rw [e.1 5 (by omega), e.1 7 (by omega), e.1 1 (by omega), e.1 2 (by omega)]
theorem p_tdE {x y : St} {v : Nat} (e : eqU x y v) : fTD y v = fTD x v := by
  unfold fTD
  rw [e.1 3 (by omega), e.1 4 (by omega)]
theorem gN.keep {r r' x y : St} {v : Nat} (h : gN r x v) (e : eqU x y v) (hle : leF (r'.1 3) (r.1 3)) (hs : r'.2 4 = r.2 4) : gN r' y v := by
  obtain ⟨h1, h2, h3⟩ := h
  refine ⟨fun q => h1 ⟨?_, ?_⟩, fun q => h2 ⟨?_, ?_, fun g hg => ?_⟩, fun q => h3 ⟨?_, ?_⟩⟩
  · rw [← e.1 5 (by omega)]; exact q.1
  · rw [← p_weE e, ← hs]; exact q.2
  · rw [← e.1 5 (by omega)]; exact q.1
  · rw [← p_weE e, ← hs]; exact q.2.1
  · rw [← e.2 g hg]; exact Int32.le_trans (q.2.2 g hg) (hle g hg)
  · rw [← e.1 5 (by omega)]; exact q.1
  · rw [← p_tdE e]; exact q.2
theorem p_bec_i {n u : Nat} {sec st : Int32} {x : St} (h : iUn n sec x) (hu : u < n) (hst : ¬ st = 1) (hs : 0 ≤ sec.toInt) : iUn n sec (fBec x u st sec) := by
  obtain ⟨h1, h2, h3, h4⟩ := h
  refine ⟨fun v hv => ?_, fun v hv => ?_, fun v hv1 hv2 => ?_, fun k hk => ?_⟩
  · obtain ⟨a1, a2, a3, a4⟩ := h1 v hv
    refine ⟨a1, a2, ?_⟩
    show 0 ≤ (upd (x.1 7) u sec v).toInt ∧ (upd (x.1 7) u sec v).toInt ≤ sec.toInt
    by_cases c : v = u
    · subst c; rw [pk_us]; exact ⟨hs, Int.le_refl _⟩
    · rw [pk_un c]; exact ⟨a3, a4⟩
  · show ¬ upd (x.1 5) u st v = 1 → upd (x.1 6) u (-1) v = -1
    by_cases c : v = u
    · subst c; rw [pk_us, pk_us]; exact fun _ => rfl
    · rw [pk_un c, pk_un c]; exact h2 v hv
  · show upd (x.1 5) u st v = 0
    rw [pk_un (by omega)]; exact h3 v hv1 hv2
  · exact h4 k hk
theorem p_done_i {n u : Nat} {sec a : Int32} {x : St} (h : iUn n sec x) : iUn n sec (sA x 4 u a) := h
theorem p_ref_k {u : Nat} : ∀ (k i : Nat) (s : St × (Nat → Int32)) (j v : Nat), j ≠ 9 → (fF (fRefS u) k i s).1.1 j v = s.1.1 j v := by
  intro k
  induction k with
  | zero => intro i s j v _; rfl
  | succ k ih =>
    intro i s j v hj
    have e := ih (i + 1) (fRefS u i s) j v hj
    exact e.trans (p_sAk hj)
theorem p_ref_i {n u : Nat} {sec : Int32} {s : St × (Nat → Int32)} (hu : u < 24) (h : iUn n sec s.1) (hf : iSt s.2) (hc : fCan s.1 s.2 u) : iUn n sec (fRef u s).1 ∧ iSt (fRef u s).2 ∧ leF (fRef u s).2 s.2 := by
  obtain ⟨h1, h2, h3, h4⟩ := h
  obtain ⟨b1, b2, b3⟩ := p_ref_le hu 6 0 s rfl hf h4 (fun g _ hg => hc g hg)
  refine ⟨⟨fun v hv => ?_, fun v hv => ?_, fun v hv1 hv2 => ?_, b2⟩, b1, b3⟩
  · unfold fRef
    rw [p_ref_k 6 0 s 1 v (by omega), p_ref_k 6 0 s 2 v (by omega), p_ref_k 6 0 s 7 v (by omega)]
    exact h1 v hv
  · unfold fRef
    rw [p_ref_k 6 0 s 5 v (by omega), p_ref_k 6 0 s 6 v (by omega)]
    exact h2 v hv
  · unfold fRef
    rw [p_ref_k 6 0 s 5 v (by omega)]
    exact h3 v hv1 hv2
theorem p_go_i {n u : Nat} {sec : Int32} {x : St} {f : Nat → Int32} (hn : n ≤ 24) (hu : u < n) (hs : 0 ≤ sec.toInt) (h : iUn n sec x) (hf : iSt f) : iUn n sec (fGo (x, f) u sec).1 ∧ iSt (fGo (x, f) u sec).2 ∧ leF (fGo (x, f) u sec).2 f := by
  have h1 : iUn n sec (fGo1 x u sec) := by
    unfold fGo1
    split
    · exact p_bec_i h hu (by decide) hs
    · exact h
  have h2 : iUn n sec (fGo2 (fGo1 x u sec, f) u sec).1 ∧ iSt (fGo2 (fGo1 x u sec, f) u sec).2 ∧ leF (fGo2 (fGo1 x u sec, f) u sec).2 f := by
    by_cases c : (fGo1 x u sec).1 5 u = 4 ∧ ¬ sec < fWE (fGo1 x u sec) u ∧ fCan (fGo1 x u sec) f u
    · rw [show fGo2 (fGo1 x u sec, f) u sec = (fBec (sA (fRef u (fGo1 x u sec, f)).1 4 u 0) u 5 sec, (fRef u (fGo1 x u sec, f)).2) from if_pos c]
      obtain ⟨b1, b2, b3⟩ := p_ref_i (s := (fGo1 x u sec, f)) (by omega) h1 hf c.2.2
      exact ⟨p_bec_i (p_done_i b1) hu (by decide) hs, b2, b3⟩
    · rw [show fGo2 (fGo1 x u sec, f) u sec = (fGo1 x u sec, f) from if_neg c]
      exact ⟨h1, hf, leF.rf⟩
  refine ⟨?_, h2.2⟩
  show iUn n sec (fGo3 (fGo2 (fGo1 x u sec, f) u sec).1 u sec)
  unfold fGo3
  split
  · exact p_bec_i h2.1 hu (by decide) hs
  · exact h2.1
theorem p_units {n : Nat} (hn : n ≤ 24) : ∀ (k i : Nat) (s : St × St), i + k = n → 0 ≤ (s.1.2 4).toInt → iUn n (s.1.2 4) s.2 → iSt (s.1.1 3) → (∀ v, v < i → gN s.1 s.2 v) → iUn n (s.1.2 4) (fF sU k i s).2 ∧ iSt ((fF sU k i s).1.1 3) ∧ (∀ v, v < n → gN (fF sU k i s).1 (fF sU k i s).2 v) ∧ (fF sU k i s).1.2 = s.1.2 ∧ (fF sU k i s).2.2 = s.2.2 := by
  intro k
  induction k with
  | zero =>
    intro i s hik _ h1 h2 h3
    have e : i = n := by omega
    subst e
    exact ⟨h1, h2, h3, rfl, rfl⟩
  | succ k ih =>
    intro i s hik hs h1 h2 h3
    obtain ⟨b1, b2, b3⟩ := p_go_i (f := s.1.1 3) hn (show i < n by omega) hs h1 h2
    have hN : ∀ v, v < i + 1 → gN (sU i s).1 (sU i s).2 v := by
      intro v hv
      by_cases c : v = i
      · subst c
        exact p_go_self
      · exact (h3 v (by omega)).keep (p_go_ne (f := s.1.1 3) c) b3 rfl
    obtain ⟨c1, c2, c3, c4, c5⟩ := ih (i + 1) (sU i s) (by omega) hs b1 b2 hN
    exact ⟨c1, c2, c3, c4, c5.trans p_sU2⟩
