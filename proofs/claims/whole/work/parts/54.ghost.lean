/-! the reference's 'thrown' rides in a place of the class's picture that no cell shows -/
theorem p_gU {t : Int32} : ∀ (k i : Nat) (xR xU : St), fF sU k i (sF xR 0 t, xU) = (sF (fF sU k i (xR, xU)).1 0 t, (fF sU k i (xR, xU)).2) := by
  intro k
  induction k with
  | zero => intro i xR xU; rfl
  | succ k ih => intro i xR xU; exact ih (i + 1) (sU i (xR, xU)).1 (sU i (xR, xU)).2
theorem p_ghost {xR xU xI xW : St} {n ni w : Nat} {t : Int32} : fSet (sF xR 0 t) xU xI xW n ni w = ((fSet xR xU xI xW n ni w).1, (sF (fSet xR xU xI xW n ni w).2.1 0 t, (fSet xR xU xI xW n ni w).2.2)) := by
  have e : fUnits n (sF xR 0 t, xU) = (sF (fUnits n (xR, xU)).1 0 t, (fUnits n (xR, xU)).2) := p_gU n 0 xR xU
  unfold fSet
  rw [e]
  rfl
theorem p_gTk {n ni : Nat} {t : Int32} : ∀ (m : Nat) (v : Int32) (s : S4), fTk n ni m (v, (sF s.1 0 t, s.2)) = ((fTk n ni m (v, s)).1, (sF (fTk n ni m (v, s)).2.1 0 t, (fTk n ni m (v, s)).2.2)) := by
  intro m
  induction m with
  | zero => intro v s; rfl
  | succ m ih =>
    intro v s
    have e : fStep n ni (sF s.1 0 t, s.2) = ((fStep n ni s).1, (sF (fStep n ni s).2.1 0 t, (fStep n ni s).2.2)) := by
      show fSet (sF (sF s.1 0 t) 4 (s.1.2 4 + 1)) s.2.1 s.2.2.1 s.2.2.2 n ni (wOf s.2.2.2) = _
      rw [show sF (sF s.1 0 t) 4 (s.1.2 4 + 1) = sF (sF s.1 4 (s.1.2 4 + 1)) 0 t from by
        refine Prod.ext rfl (funext fun j => ?_)
        show (bif Nat.beq j 4 then _ else (bif Nat.beq j 0 then t else s.1.2 j)) = (bif Nat.beq j 0 then t else (bif Nat.beq j 4 then _ else s.1.2 j))
        cases e4 : Nat.beq j 4
        · rfl
        · rw [Nat.eq_of_beq_eq_true e4]; rfl]
      exact p_ghost
    show fTk n ni m (v + (fStep n ni (sF s.1 0 t, s.2)).1, (fStep n ni (sF s.1 0 t, s.2)).2) = _
    rw [e]
    exact ih _ _
/-- class and reference agree, and nothing more can be so -/
def Good (xR xU xI xW xM : St) : Prop := ∃ n ni w t, Inv xR xU xI xW n ni w ∧ Settled xR xU xI xW n ni w ∧ Rel (sF xR 0 t) xU xI xW xM
/-- small numbers and refusals of the reference -/
theorem m_throwing {xR xU xI xW xM : St} {t a b c d : Int32} {post : Int32 → St → Prop} (h : Rel (sF xR 0 t) xU xI xW xM)
    (h1 : ¬ a = 0 → ∀ z, Rel (sF xR 0 1) xU xI xW z → post 1 z)
    (h2 : a = 0 → ¬ b = 0 → ∀ z, Rel (sF xR 0 2) xU xI xW z → post 1 z)
    (h3 : a = 0 → b = 0 → ¬ c = 0 → ∀ z, Rel (sF xR 0 3) xU xI xW z → post 1 z)
    (h4 : a = 0 → b = 0 → c = 0 → ¬ d = 0 → ∀ z, Rel (sF xR 0 4) xU xI xW z → post 1 z)
    (h0 : a = 0 → b = 0 → c = 0 → d = 0 → ∀ z, Rel (sF xR 0 0) xU xI xW z → post 0 z) : wp_M_throwing xM a b c d post := by
  have hz : ∀ v, Rel (sF xR 0 v) xU xI xW (sF xM 0 v) := by
    intro v
    have q := s_R0 h v
    rw [p_sFF] at q
    exact q
  refine ⟨fun ca => ⟨fun cb => ⟨fun cc => ⟨fun cd => ⟨fun _ => h0 ca cb cc cd _ (hz 0), fun q => absurd (show (0 : Int32) ≤ 0 by decide) q⟩, fun cd => ⟨fun q => absurd q (show ¬ (4 : Int32) ≤ 0 by decide), fun _ => h4 ca cb cc cd _ (hz 4)⟩⟩, fun cc => ⟨fun q => absurd q (show ¬ (3 : Int32) ≤ 0 by decide), fun _ => h3 ca cb cc _ (hz 3)⟩⟩, fun cb => ⟨fun q => absurd q (show ¬ (2 : Int32) ≤ 0 by decide), fun _ => h2 ca cb _ (hz 2)⟩⟩, fun ca => ⟨fun q => absurd q (show ¬ (1 : Int32) ≤ 0 by decide), fun _ => h1 ca _ (hz 1)⟩⟩
theorem m_in {a lo hi : Int32} {post : Int32 → Unit → Prop} (h1 : ¬ a < lo ∧ a ≤ hi → post 1 ()) (h0 : ¬ (¬ a < lo ∧ a ≤ hi) → post 0 ()) : wp_M_in a lo hi post :=
  ⟨fun c => h0 (fun q => q.1 c), fun c => ⟨fun c2 => h0 (fun q => absurd c2 (Int32.not_lt.mpr q.2)), fun c2 => h1 ⟨c, Int32.not_lt.mp c2⟩⟩⟩
theorem p_idx {a : Int32} {n : Nat} (hn : n ≤ 1000) : (¬ a < 0 ∧ a ≤ nI n - 1) ↔ ∃ u, u < n ∧ a = nI u := by
  have e : (nI n - 1).toInt = (n : Int) - 1 := by
    rw [show (1 : Int32) = nI 1 from rfl, pk_sub_toInt (by omega) (by omega)]
    rfl
  constructor
  · rintro ⟨h1, h2⟩
    obtain ⟨j, hj, rfl⟩ := nI_of h1
    rw [Int32.le_iff_toInt_le, e, nI_toInt hj] at h2
    exact ⟨j, by omega, rfl⟩
  · rintro ⟨u, hu, rfl⟩
    refine ⟨nI_pos (by omega), ?_⟩
    rw [Int32.le_iff_toInt_le, e, nI_toInt (by omega)]
    omega
theorem m_isUnit {xR xU xI xW xM : St} (h : Rel xR xU xI xW xM) {n : Nat} {a : Int32} {post : Int32 → Unit → Prop} (hn : n ≤ 24) (en : xU.2 10 = nI n) (h1 : ∀ u, u < n → a = nI u → post 1 ()) (h0 : (¬ ∃ u, u < n ∧ a = nI u) → post 0 ()) : wp_M_isUnit xM a post := by
  unfold wp_M_isUnit
  rw [r_U10 h, en]
  refine m_in (fun q => ⟨p_narB1, ?_⟩) (fun q => ⟨p_narB0, h0 (fun z => q ((p_idx (by omega)).mpr z))⟩)
  obtain ⟨u, hu, e⟩ := (p_idx (by omega)).mp q
  exact h1 u hu e
theorem m_isIncident {xR xU xI xW xM : St} (h : Rel xR xU xI xW xM) {n : Nat} {a : Int32} {post : Int32 → Unit → Prop} (hn : n ≤ 20) (en : xI.2 9 = nI n) (h1 : ∀ u, u < n → a = nI u → post 1 ()) (h0 : (¬ ∃ u, u < n ∧ a = nI u) → post 0 ()) : wp_M_isIncident xM a post := by
  unfold wp_M_isIncident
  rw [r_I9 h, en]
  refine m_in (fun q => ⟨p_narB1, ?_⟩) (fun q => ⟨p_narB0, h0 (fun z => q ((p_idx (by omega)).mpr z))⟩)
  obtain ⟨u, hu, e⟩ := (p_idx (by omega)).mp q
  exact h1 u hu e
theorem m_isShut {xR xU xI xW xM : St} (h : Rel xR xU xI xW xM) {n : Nat} {a : Int32} {post : Int32 → Unit → Prop} (hn : n ≤ 20) (en : xI.2 9 = nI n) (h1 : ∀ u, u < n → a = nI u → xI.1 1 u = 0 → post 1 ()) (h2 : ∀ u, u < n → a = nI u → ¬ xI.1 1 u = 0 → post 0 ()) (h0 : (¬ ∃ u, u < n ∧ a = nI u) → post 0 ()) : wp_M_isShut xM a post := by
  unfold wp_M_isShut wj_M_isShut_21
  refine m_isIncident h hn en (fun u hu e => ⟨fun q => absurd q (by decide), fun _ => ?_⟩) (fun q => ⟨fun _ => h0 q, fun q => absurd rfl q⟩)
  subst e
  rw [p_cl (by omega), r_I1 h]
  exact ⟨p_in (by omega) (by omega), h2 u hu rfl, h1 u hu rfl⟩
theorem m_isGood {a : Int32} {post : Int32 → Unit → Prop} (h1 : ∀ u, u < 6 → a = nI u → post 1 ()) (h0 : (¬ ∃ u, u < 6 ∧ a = nI u) → post 0 ()) : wp_M_isGood a post := by
  unfold wp_M_isGood
  have e5 : (5 : Int32) = nI 6 - 1 := by decide
  rw [e5]
  refine m_in (fun q => ⟨p_narB1, ?_⟩) (fun q => ⟨p_narB0, h0 (fun z => q ((p_idx (by omega)).mpr z))⟩)
  obtain ⟨u, hu, e⟩ := (p_idx (by omega)).mp q
  exact h1 u hu e
theorem p_isGood {a : Int32} {post : Int32 → Unit → Prop} (h1 : ∀ u, u < 6 → a = nI u → post 1 ()) (h0 : (¬ ∃ u, u < 6 ∧ a = nI u) → post 0 ()) : wp_R_isGood a post := by
  unfold wp_R_isGood wj_R_isGood_14
  rcases pk_ix a (n := 6) (by omega) with h | h | ⟨u, hu, rfl⟩
  · refine ⟨fun _ => h0 ?_, fun c => absurd h c⟩
    rintro ⟨u, hu, rfl⟩
    exact absurd h (p_neg (by omega))
  · have hq : ¬ ∃ u, u < 6 ∧ a = nI u := by
      rintro ⟨u, hu, rfl⟩
      rw [p_le (by omega) (by omega)] at h
      omega
    exact ⟨fun _ => h0 hq, fun _ => ⟨fun _ => h0 hq, fun c => absurd h c⟩⟩
  · refine ⟨fun c => absurd c (p_neg (by omega)), fun _ => ⟨fun c => ?_, fun _ => h1 u hu rfl⟩⟩
    rw [show (6 : Int32) = nI 6 from rfl, p_le (by omega) (by omega)] at c
    omega
