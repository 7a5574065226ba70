/-! time: the class goes from event to event, the reference second by second -/
abbrev S4 : Type := St × St × St × St
def eA (sec a c : Int32) : Int32 := if a ≤ sec then c else if c ≤ a then c else a
theorem p_earlier {xR xU xI xW : St} {a c : Int32} {post : Int32 → Unit → Prop} (h : post (eA (xR.2 4) a c) ()) : wp_R_earlierAhead xR xU xI xW a c post := by
  unfold wp_R_earlierAhead wj_R_earlierAhead_17
  unfold eA at h
  refine ⟨fun q => ?_, fun q => ⟨fun q2 => ?_, fun q2 => ?_⟩⟩
  · rw [if_pos q] at h; exact h
  · rw [if_neg q, if_pos q2] at h; exact h
  · rw [if_neg q, if_neg q2] at h; exact h
def sN1 (sec : Int32) (xU : St) (u : Nat) (c : Int32) : Int32 := eA sec (fWE xU u) c
def sN2 (sec : Int32) (xI : St) (i : Nat) (c : Int32) : Int32 := if xI.1 1 i = 0 then c else eA sec (xI.1 5 i) c
def fNC (sec : Int32) (xU xI : St) (n ni : Nat) (e : Int32) : Int32 := fF (sN2 sec xI) ni 0 (fF (sN1 sec xU) n 0 e)
theorem p_nextChange {xR xU xI xW : St} {n ni : Nat} {e : Int32} {post : Int32 → Unit → Prop} (hn : n ≤ 24) (en : xU.2 10 = nI n) (hni : ni ≤ 20) (eni : xI.2 9 = nI ni) (h : post (fNC (xR.2 4) xU xI n ni e) ()) : wp_R_nextChange xR xU xI xW e post := by
  refine ⟨n + 1, ?_⟩
  refine p_loop (Wl := fun k c i => wl_R_nextChange_4 xR xU xI xW e post k c i) (N := n) (step := sN1 (xR.2 4) xU) (I := fun _ _ => True) (post := fun c => c = fF (sN1 (xR.2 4) xU) n 0 e) ?_ ?_ (fun _ _ _ _ => trivial) n 0 e (by omega) trivial rfl
  · intro k c _ hc
    subst hc
    refine ⟨fun _ => ⟨ni + 1, ?_⟩, fun q => ?_⟩
    · refine p_loop (Wl := fun k c i => wl_R_nextChange_37 xR xU xI xW e post k c i) (N := ni) (step := sN2 (xR.2 4) xI) (I := fun _ _ => True) (post := fun c => post c ()) ?_ ?_ (fun _ _ _ _ => trivial) ni 0 (fF (sN1 (xR.2 4) xU) n 0 e) (by omega) trivial h
      · intro k c _ hc
        refine ⟨fun _ => hc, fun q => ?_⟩
        rw [eni, p_le (by omega) (by omega)] at q
        omega
      · intro k c i hi _ hw
        refine ⟨fun q => ?_, fun _ => ?_⟩
        · rw [eni, p_le (by omega) (by omega)] at q
          omega
        · unfold wj_R_nextChange_75
          rw [p_cl (by omega)]
          unfold sN2 at hw
          refine ⟨p_in (by omega) (by omega), fun q => ?_, fun q => ⟨p_in (by omega) (by omega), p_earlier ?_⟩⟩
          · intro v hv; rw [hv, p_s]; rw [if_pos q] at hw; exact hw
          · intro v hv; rw [hv, p_s]; rw [if_neg q] at hw; exact hw
    · rw [en, p_le (by omega) (by omega)] at q
      omega
  · intro k c i hi _ hw
    refine ⟨fun q => ?_, fun _ => p_workEnd (by omega) (p_earlier ?_)⟩
    · rw [en, p_le (by omega) (by omega)] at q
      omega
    · intro v hv
      rw [hv, p_s]
      exact hw
theorem p_eA {sec a c : Int32} (h : sec < c) : sec < eA sec a c ∧ eA sec a c ≤ c ∧ (a ≤ sec ∨ eA sec a c ≤ a) := by
  unfold eA
  by_cases q : a ≤ sec
  · rw [if_pos q]; exact ⟨h, Int32.le_refl _, Or.inl q⟩
  · rw [if_neg q]
    by_cases q2 : c ≤ a
    · rw [if_pos q2]; exact ⟨h, Int32.le_refl _, Or.inr q2⟩
    · rw [if_neg q2]; exact ⟨Int32.not_le.mp q, Int32.le_of_lt (Int32.not_le.mp q2), Or.inr (Int32.le_refl _)⟩
theorem p_nc {sec e : Int32} {xU xI : St} {n ni : Nat} (h : sec < e) : sec < fNC sec xU xI n ni e ∧ fNC sec xU xI n ni e ≤ e ∧ (∀ u, u < n → fWE xU u ≤ sec ∨ fNC sec xU xI n ni e ≤ fWE xU u) ∧ ∀ i, i < ni → ¬ xI.1 1 i = 0 → xI.1 5 i ≤ sec ∨ fNC sec xU xI n ni e ≤ xI.1 5 i := by
  have h1 := p_fFI (N := n) (step := sN1 sec xU) (I := fun i c => sec < c ∧ c ≤ e ∧ ∀ u, u < i → fWE xU u ≤ sec ∨ c ≤ fWE xU u) (by
    intro c i hi ⟨a1, a2, a3⟩
    obtain ⟨b1, b2, b3⟩ := p_eA (a := fWE xU i) a1
    refine ⟨b1, Int32.le_trans b2 a2, fun u hu => ?_⟩
    by_cases q : u = i
    · subst q; exact b3
    · rcases a3 u (by omega) with z | z
      · exact Or.inl z
      · exact Or.inr (Int32.le_trans b2 z)) n 0 e (by omega) ⟨h, Int32.le_refl _, fun u hu => absurd hu (Nat.not_lt_zero u)⟩
  have h2 := p_fFI (N := ni) (step := sN2 sec xI) (I := fun i c => sec < c ∧ c ≤ fF (sN1 sec xU) n 0 e ∧ ∀ u, u < i → ¬ xI.1 1 u = 0 → xI.1 5 u ≤ sec ∨ c ≤ xI.1 5 u) (by
    intro c i hi ⟨a1, a2, a3⟩
    show sec < sN2 sec xI i c ∧ sN2 sec xI i c ≤ fF (sN1 sec xU) n 0 e ∧ ∀ u, u < i + 1 → ¬ xI.1 1 u = 0 → xI.1 5 u ≤ sec ∨ sN2 sec xI i c ≤ xI.1 5 u
    unfold sN2
    by_cases qo : xI.1 1 i = 0
    · rw [if_pos qo]
      refine ⟨a1, a2, fun u hu ho => ?_⟩
      by_cases q : u = i
      · subst q; exact absurd qo ho
      · exact a3 u (by omega) ho
    · rw [if_neg qo]
      obtain ⟨b1, b2, b3⟩ := p_eA (a := xI.1 5 i) a1
      refine ⟨b1, Int32.le_trans b2 a2, fun u hu ho => ?_⟩
      by_cases q : u = i
      · subst q; exact b3
      · rcases a3 u (by omega) ho with z | z
        · exact Or.inl z
        · exact Or.inr (Int32.le_trans b2 z)) ni 0 (fF (sN1 sec xU) n 0 e) (by omega) ⟨h1.1, Int32.le_refl _, fun u hu => absurd hu (Nat.not_lt_zero u)⟩
  refine ⟨h2.1, Int32.le_trans h2.2.1 h1.2.1, fun u hu => ?_, h2.2.2⟩
  rcases h1.2.2 u hu with z | z
  · exact Or.inl z
  · exact Or.inr (Int32.le_trans h2.2.1 z)
theorem p_skip {xR xU xI xW : St} {n ni w : Nat} {c t : Int32} (h : Settled xR xU xI xW n ni w) (hc1 : ∀ u, u < n → fWE xU u ≤ xR.2 4 ∨ c ≤ fWE xU u) (hc2 : ∀ i, i < ni → ¬ xI.1 1 i = 0 → xI.1 5 i ≤ xR.2 4 ∨ c ≤ xI.1 5 i) (ht : t < c) : Settled (sF xR 4 t) xU xI xW n ni w := by
  obtain ⟨h1, h2, h3⟩ := h
  refine ⟨fun v hv => ?_, h2, fun i hi => ?_⟩
  · obtain ⟨a, b, g⟩ := h1 v hv
    have key : xR.2 4 < fWE xU v → t < fWE xU v := by
      intro q
      rcases hc1 v hv with z | z
      · exact absurd q (Int32.not_lt.mpr z)
      · exact Int32.lt_of_lt_of_le ht z
    refine ⟨fun q => ?_, fun q => ?_, g⟩
    · have q2 : ¬ t < fWE xU v := q.2
      by_cases z : xR.2 4 < fWE xU v
      · exact q2 (key z)
      · exact a ⟨q.1, z⟩
    · have q2 : ¬ t < fWE xU v := q.2.1
      by_cases z : xR.2 4 < fWE xU v
      · exact q2 (key z)
      · exact b ⟨q.1, z, q.2.2⟩
  · rintro ⟨⟨a1, a2, a3, a4, a5⟩, b1, b2⟩
    have q2 : ¬ t < xI.1 5 i := a5
    by_cases z : xR.2 4 < xI.1 5 i
    · rcases hc2 i hi a1 with y | y
      · exact absurd z (Int32.not_lt.mpr y)
      · exact q2 (Int32.lt_of_lt_of_le ht y)
    · exact h3 i hi ⟨⟨a1, a2, a3, a4, z⟩, b1, b2⟩
theorem Inv.time {xR xU xI xW : St} {n ni w : Nat} {t : Int32} (h : Inv xR xU xI xW n ni w) (h1 : (xR.2 4).toInt ≤ t.toInt) (h2 : t.toInt ≤ 999999) : Inv (sF xR 4 t) xU xI xW n ni w := by
  obtain ⟨hn, hni, hw, hsec, hspan, ⟨u1, u2⟩, hSt, ⟨i1, i2⟩⟩ := h
  refine ⟨hn, hni, hw, ⟨by have := hsec.1; show 0 ≤ t.toInt; omega, h2⟩, hspan, ⟨fun v hv => ?_, u2⟩, hSt, ⟨fun i hi => ?_, i2⟩⟩
  · obtain ⟨a1, a2, a3, a4⟩ := u1 v hv
    exact ⟨a1, a2, a3, by show (xU.1 7 v).toInt ≤ t.toInt; omega⟩
  · obtain ⟨a1, a2, a3, a4⟩ := i1 i hi
    exact ⟨a1, a2, a3, by show (xI.1 8 i).toInt ≤ t.toInt; omega⟩
def wOf (x : St) : Nat := (x.2 1).toNatClampNeg
theorem p_wOf {x : St} {w : Nat} (h : iW w x) (hw : w ≤ 30) : wOf x = w := by
  unfold wOf
  rw [h.1]
  exact p_cl (by omega)
noncomputable def fStep (n ni : Nat) (s : S4) : Int32 × S4 := fSet (sF s.1 4 (s.1.2 4 + 1)) s.2.1 s.2.2.1 s.2.2.2 n ni (wOf s.2.2.2)
noncomputable def fTk (n ni : Nat) : Nat → Int32 × S4 → Int32 × S4
  | 0, p => p
  | m + 1, p => fTk n ni m (p.1 + (fStep n ni p.2).1, (fStep n ni p.2).2)
theorem p_tkAdd {n ni : Nat} : ∀ (a b : Nat) (p : Int32 × S4), fTk n ni (a + b) p = fTk n ni b (fTk n ni a p) := by
  intro a
  induction a with
  | zero => intro b p; rw [Nat.zero_add]; rfl
  | succ a ih =>
    intro b p
    rw [Nat.succ_add]
    exact ih b _
theorem p_sFF {x : St} {k : Nat} {a b : Int32} : sF (sF x k a) k b = sF x k b := by
  refine Prod.ext rfl (funext fun j => ?_)
  show (bif Nat.beq j k then b else (bif Nat.beq j k then a else x.2 j)) = (bif Nat.beq j k then b else x.2 j)
  cases Nat.beq j k <;> rfl
theorem p_sFself {x : St} {k : Nat} : sF x k (x.2 k) = x := by
  refine Prod.ext rfl (funext fun j => ?_)
  show (bif Nat.beq j k then x.2 k else x.2 j) = x.2 j
  cases e : Nat.beq j k
  · rfl
  · rw [Nat.eq_of_beq_eq_true e]; rfl
theorem p_t {s : Int32} {d : Nat} (h : inR s 0 999999) (hd : d ≤ 5000) : (s + nI d).toInt = s.toInt + d := by
  have hd2 : (nI d).toInt = d := nI_toInt (by omega)
  rw [p_add_toInt (a := 0) (b := 999999) h ⟨by omega, by omega⟩ (by omega) (by omega), hd2]
theorem p_t1 {s : Int32} {d : Nat} : s + nI d + 1 = s + nI (d + 1) := by rw [Int32.add_assoc, nI_1]
theorem p_idleTk {xR xU xI xW : St} {n ni w : Nat} {c cl : Int32} (hI : Inv xR xU xI xW n ni w) (h : Settled xR xU xI xW n ni w) (hc1 : ∀ u, u < n → fWE xU u ≤ xR.2 4 ∨ c ≤ fWE xU u) (hc2 : ∀ i, i < ni → ¬ xI.1 1 i = 0 → xI.1 5 i ≤ xR.2 4 ∨ c ≤ xI.1 5 i) : ∀ d : Nat, d ≤ 5000 → (xR.2 4).toInt + d < c.toInt → fTk n ni d (cl, (xR, xU, xI, xW)) = (cl, (sF xR 4 (xR.2 4 + nI d), xU, xI, xW)) := by
  intro d
  induction d with
  | zero =>
    intro _ _
    show (cl, (xR, xU, xI, xW)) = _
    rw [show xR.2 4 + nI 0 = xR.2 4 from Int32.add_zero _, p_sFself]
  | succ d ih =>
    intro hd hlt
    rw [show d + 1 = d + 1 from rfl, p_tkAdd d 1, ih (by omega) (by omega)]
    have hw : wOf xW = w := p_wOf hI.2.2.1.2 hI.2.2.1.1
    have e1 : fStep n ni (sF xR 4 (xR.2 4 + nI d), xU, xI, xW) = (0, (sF xR 4 (xR.2 4 + nI (d + 1)), xU, xI, xW)) := by
      show fSet (sF (sF xR 4 (xR.2 4 + nI d)) 4 (xR.2 4 + nI d + 1)) xU xI xW n ni (wOf xW) = _
      rw [p_sFF, p_t1, hw]
      refine p_setId (p_skip h hc1 hc2 ?_)
      rw [Int32.lt_iff_toInt_lt, p_t hI.2.2.2.1 hd]
      omega
    show (cl + (fStep n ni (sF xR 4 (xR.2 4 + nI d), xU, xI, xW)).1, (fStep n ni (sF xR 4 (xR.2 4 + nI d), xU, xI, xW)).2) = _
    rw [e1]
    show (cl + 0, _) = _
    rw [Int32.add_zero]
