/-! the law's cases, one by one: the small rows that all of them use -/
theorem l_endv {z : St} {k : Int32} {K : Prop} (e : z.2 0 = k) (h : K) : wp_M_thrown z (fun t _ => (t = k → K) ∧ (¬ t = k → False)) := ⟨fun _ => h, fun q => q e⟩
theorem l_cmp {a : Int64} : lg_cmp a a = 0 := by
  unfold lg_cmp
  simp
theorem l_in01 : vp_in (0 : Int32) 1 := p_in (u := 0) (by omega) (by omega)
theorem l_endi {z : St} {k b : Int32} {o : Int64} {K : Prop} (e : z.2 0 = k) (h : K) (hb : k = 0 → o = b.toInt64) : wp_M_thrown z (fun t _ => (t = k → ((¬ k = 0 → K) ∧ (k = 0 → (vp_in (0 : Int32) 1 ∧ (((lg_cmp o b.toInt64) = 0 → K) ∧ (¬ (lg_cmp o b.toInt64) = 0 → False)))))) ∧ (¬ t = k → False)) :=
  ⟨fun _ => ⟨fun _ => h, fun q => ⟨l_in01, fun _ => h, fun c => c (by rw [hb q]; exact l_cmp)⟩⟩, fun q => q e⟩
abbrev Rec : Type := St → St → St → St → St → (Nat → Int64) → Int32 → Prop
/-- the next turn may start in every good state -/
def nxt (rec23 : Rec) (i4 : Int32) : Prop := ∀ xR xU xI xW xM xo, Good xR xU xI xW xM → ∀ v : Int32, v = i4 + 5 → rec23 xR xU xI xW xM xo v
theorem p_01 : ¬ (1 : Int32) = 0 := by decide
theorem yy_t {p X Y : Prop} (hp : p) (h : X) : (p → X) ∧ (¬ p → Y) := ⟨fun _ => h, fun q => absurd hp q⟩
theorem yy_f {p X Y : Prop} (hp : ¬ p) (h : Y) : (p → X) ∧ (¬ p → Y) := ⟨fun q => absurd q hp, fun _ => h⟩
theorem yy_t' {p X Y : Prop} (hp : p) (h : Y) : (¬ p → X) ∧ (p → Y) := ⟨fun q => absurd hp q, fun _ => h⟩
theorem yy_f' {p X Y : Prop} (hp : ¬ p) (h : X) : (¬ p → X) ∧ (p → Y) := ⟨fun _ => h, fun q => absurd q hp⟩
theorem p_nn {p : Prop} (h : p) : ¬ ¬ p := fun q => q h
theorem neBA : ¬ "java/lang/IndexOutOfBoundsException" = "java/lang/IllegalArgumentException" := by decide
theorem neCA : ¬ "java/lang/IllegalStateException" = "java/lang/IllegalArgumentException" := by decide
theorem neCB : ¬ "java/lang/IllegalStateException" = "java/lang/IndexOutOfBoundsException" := by decide
theorem neDA : ¬ "java/lang/UnsupportedOperationException" = "java/lang/IllegalArgumentException" := by decide
theorem neDB : ¬ "java/lang/UnsupportedOperationException" = "java/lang/IndexOutOfBoundsException" := by decide
theorem neDC : ¬ "java/lang/UnsupportedOperationException" = "java/lang/IllegalStateException" := by decide
section YN
variable {xR xU xI xW xM x : St} {n u : Nat} {a lo hi t : Int32} {post : Int32 → Unit → Prop} {postM : Int32 → St → Prop}
theorem p_hasU_y (hn : x.2 10 = nI n) (hl : n ≤ 24) (hu : u < n) (h : post 1 ()) : wp_U_has x (nI u) post := p_hasU hn hl (fun _ _ _ => h) (fun q => absurd ⟨u, hu, rfl⟩ q)
theorem p_hasU_n (hn : x.2 10 = nI n) (hl : n ≤ 24) (hk : ¬ ∃ u, u < n ∧ a = nI u) (h : post 0 ()) : wp_U_has x a post := p_hasU hn hl (fun u hu e => absurd ⟨u, hu, e⟩ hk) (fun _ => h)
theorem p_hasI_y (hn : x.2 9 = nI n) (hl : n ≤ 20) (hu : u < n) (h : post 1 ()) : wp_I_has x (nI u) post := p_hasI hn hl (fun _ _ _ => h) (fun q => absurd ⟨u, hu, rfl⟩ q)
theorem p_hasI_n (hn : x.2 9 = nI n) (hl : n ≤ 20) (hk : ¬ ∃ u, u < n ∧ a = nI u) (h : post 0 ()) : wp_I_has x a post := p_hasI hn hl (fun u hu e => absurd ⟨u, hu, e⟩ hk) (fun _ => h)
theorem m_isUnit_y (hR : Rel xR xU xI xW xM) (hl : n ≤ 24) (hn : xU.2 10 = nI n) (hu : u < n) (h : post 1 ()) : wp_M_isUnit xM (nI u) post := m_isUnit hR hl hn (fun _ _ _ => h) (fun q => absurd ⟨u, hu, rfl⟩ q)
theorem m_isUnit_n (hR : Rel xR xU xI xW xM) (hl : n ≤ 24) (hn : xU.2 10 = nI n) (hk : ¬ ∃ u, u < n ∧ a = nI u) (h : post 0 ()) : wp_M_isUnit xM a post := m_isUnit hR hl hn (fun u hu e => absurd ⟨u, hu, e⟩ hk) (fun _ => h)
theorem m_isInc_y (hR : Rel xR xU xI xW xM) (hl : n ≤ 20) (hn : xI.2 9 = nI n) (hu : u < n) (h : post 1 ()) : wp_M_isIncident xM (nI u) post := m_isIncident hR hl hn (fun _ _ _ => h) (fun q => absurd ⟨u, hu, rfl⟩ q)
theorem m_isInc_n (hR : Rel xR xU xI xW xM) (hl : n ≤ 20) (hn : xI.2 9 = nI n) (hk : ¬ ∃ u, u < n ∧ a = nI u) (h : post 0 ()) : wp_M_isIncident xM a post := m_isIncident hR hl hn (fun u hu e => absurd ⟨u, hu, e⟩ hk) (fun _ => h)
theorem p_same {u v : Nat} (hu : u < 1000) (hv : v < 1000) (e : nI u = nI v) : u = v := by
  have h1 := p_cl hu
  rw [e, p_cl hv] at h1
  exact h1.symm
theorem m_shut_o (hR : Rel xR xU xI xW xM) (hl : n ≤ 20) (hn : xI.2 9 = nI n) (hu : u < n) (ho : ¬ xI.1 1 u = 0) (h : post 0 ()) : wp_M_isShut xM (nI u) post := m_isShut hR hl hn (fun v hv e c => by
  rw [p_same (by omega) (by omega) e] at ho
  exact absurd c ho) (fun _ _ _ _ => h) (fun q => absurd ⟨u, hu, rfl⟩ q)
theorem m_shut_c (hR : Rel xR xU xI xW xM) (hl : n ≤ 20) (hn : xI.2 9 = nI n) (hu : u < n) (ho : xI.1 1 u = 0) (h : post 1 ()) : wp_M_isShut xM (nI u) post := m_isShut hR hl hn (fun _ _ _ _ => h) (fun v hv e c => by
  rw [p_same (by omega) (by omega) e] at ho
  exact absurd ho c) (fun q => absurd ⟨u, hu, rfl⟩ q)
theorem m_shut_n (hR : Rel xR xU xI xW xM) (hl : n ≤ 20) (hn : xI.2 9 = nI n) (hk : ¬ ∃ u, u < n ∧ a = nI u) (h : post 0 ()) : wp_M_isShut xM a post := m_isShut hR hl hn (fun u hu e _ => absurd ⟨u, hu, e⟩ hk) (fun u hu e _ => absurd ⟨u, hu, e⟩ hk) (fun _ => h)
theorem m_in_y (c : ¬ a < lo ∧ a ≤ hi) (h : post 1 ()) : wp_M_in a lo hi post := m_in (fun _ => h) (fun q => absurd c q)
theorem m_in_n (c : ¬ (¬ a < lo ∧ a ≤ hi)) (h : post 0 ()) : wp_M_in a lo hi post := m_in (fun q => absurd q c) (fun _ => h)
theorem m_good_y (hu : u < 6) (h : post 1 ()) : wp_M_isGood (nI u) post := m_isGood (fun _ _ _ => h) (fun q => absurd ⟨u, hu, rfl⟩ q)
theorem m_good_n (hk : ¬ ∃ u, u < 6 ∧ a = nI u) (h : post 0 ()) : wp_M_isGood a post := m_isGood (fun u hu e => absurd ⟨u, hu, e⟩ hk) (fun _ => h)
theorem p_good_y (hu : u < 6) (h : post 1 ()) : wp_R_isGood (nI u) post := p_isGood (fun _ _ _ => h) (fun q => absurd ⟨u, hu, rfl⟩ q)
theorem p_good_n (hk : ¬ ∃ u, u < 6 ∧ a = nI u) (h : post 0 ()) : wp_R_isGood a post := p_isGood (fun u hu e => absurd ⟨u, hu, e⟩ hk) (fun _ => h)
theorem m_thr1 {b c d : Int32} (hR : Rel (sF xR 0 t) xU xI xW xM) (h : ∀ z, Rel (sF xR 0 1) xU xI xW z → postM 1 z) : wp_M_throwing xM 1 b c d postM := m_throwing hR (fun _ => h) (fun q => absurd q p_01) (fun q => absurd q p_01) (fun q => absurd q p_01) (fun q => absurd q p_01)
theorem m_thr2 {c d : Int32} (hR : Rel (sF xR 0 t) xU xI xW xM) (h : ∀ z, Rel (sF xR 0 2) xU xI xW z → postM 1 z) : wp_M_throwing xM 0 1 c d postM := m_throwing hR (fun q => absurd rfl q) (fun _ _ => h) (fun _ q => absurd q p_01) (fun _ q => absurd q p_01) (fun _ q => absurd q p_01)
theorem m_thr3 {d : Int32} (hR : Rel (sF xR 0 t) xU xI xW xM) (h : ∀ z, Rel (sF xR 0 3) xU xI xW z → postM 1 z) : wp_M_throwing xM 0 0 1 d postM := m_throwing hR (fun q => absurd rfl q) (fun _ q => absurd rfl q) (fun _ _ _ => h) (fun _ _ q => absurd q p_01) (fun _ _ q => absurd q p_01)
theorem m_thr4 (hR : Rel (sF xR 0 t) xU xI xW xM) (h : ∀ z, Rel (sF xR 0 4) xU xI xW z → postM 1 z) : wp_M_throwing xM 0 0 0 1 postM := m_throwing hR (fun q => absurd rfl q) (fun _ q => absurd rfl q) (fun _ _ q => absurd rfl q) (fun _ _ _ _ => h) (fun _ _ _ q => absurd q p_01)
theorem m_thr0 (hR : Rel (sF xR 0 t) xU xI xW xM) (h : ∀ z, Rel (sF xR 0 0) xU xI xW z → postM 0 z) : wp_M_throwing xM 0 0 0 0 postM := m_throwing hR (fun q => absurd rfl q) (fun _ q => absurd rfl q) (fun _ _ q => absurd rfl q) (fun _ _ _ q => absurd rfl q) (fun _ _ _ _ => h)
end YN
section ENDS
variable {xs : Nat → Int32} {L : Nat} {rec23 : Rec} {xR xU xI xW z : St} {xo : Nat → Int64} {i4 k : Int32} {n ni w : Nat}
theorem l_yes (hn : nxt rec23 i4) (hg : Good xR xU xI xW z) (e : z.2 0 = k) : wp_M_thrown z (fun t _ => (t = k → ∀ v : Int32, v = i4 + 5 → rec23 xR xU xI xW z xo v) ∧ (¬ t = k → False)) := l_endv e (hn _ _ _ _ _ _ hg)
theorem l_no (hn : nxt rec23 i4) (hI : Inv xR xU xI xW n ni w) (hS : Settled xR xU xI xW n ni w) (hz : Rel (sF xR 0 k) xU xI xW z) : wp_M_thrown z (fun t _ => (t = k → ∀ v : Int32, v = i4 + 5 → rec23 xR xU xI xW z xo v) ∧ (¬ t = k → False)) := l_yes hn ⟨n, ni, w, k, hI, hS, hz⟩ (r_R0 hz)
theorem l_updL {v : Int64} : vp_updL xo (0 : Int32).toNatClampNeg v (0 : Int32).toNatClampNeg = v := by
  unfold vp_updL
  simp
theorem l_yesi {r b : Int32} (hn : nxt rec23 i4) (hg : Good xR xU xI xW z) (e : z.2 0 = 0) (hb : r = b) : wp_M_thrown z (fun t _ => (t = (0 : Int32) → ((¬ (0 : Int32) = 0 → ∀ v : Int32, v = i4 + 5 → rec23 xR xU xI xW z (vp_updL xo (0 : Int32).toNatClampNeg r.toInt64) v) ∧ ((0 : Int32) = 0 → (vp_in (0 : Int32) 1 ∧ (((lg_cmp (vp_updL xo (0 : Int32).toNatClampNeg r.toInt64 (0 : Int32).toNatClampNeg) b.toInt64) = 0 → ∀ v : Int32, v = i4 + 5 → rec23 xR xU xI xW z (vp_updL xo (0 : Int32).toNatClampNeg r.toInt64) v) ∧ (¬ (lg_cmp (vp_updL xo (0 : Int32).toNatClampNeg r.toInt64 (0 : Int32).toNatClampNeg) b.toInt64) = 0 → False)))))) ∧ (¬ t = (0 : Int32) → False)) :=
  l_endi e (hn _ _ _ _ _ _ hg) (fun _ => by rw [l_updL, hb])
theorem l_noi {b : Int32} (hk : ¬ k = 0) (hn : nxt rec23 i4) (hI : Inv xR xU xI xW n ni w) (hS : Settled xR xU xI xW n ni w) (hz : Rel (sF xR 0 k) xU xI xW z) : wp_M_thrown z (fun t _ => (t = k → ((¬ k = 0 → ∀ v : Int32, v = i4 + 5 → rec23 xR xU xI xW z xo v) ∧ (k = 0 → (vp_in (0 : Int32) 1 ∧ (((lg_cmp (xo (0 : Int32).toNatClampNeg) b.toInt64) = 0 → ∀ v : Int32, v = i4 + 5 → rec23 xR xU xI xW z xo v) ∧ (¬ (lg_cmp (xo (0 : Int32).toNatClampNeg) b.toInt64) = 0 → False)))))) ∧ (¬ t = k → False)) :=
  l_endi (r_R0 hz) (hn _ _ _ _ _ _ ⟨n, ni, w, k, hI, hS, hz⟩) (fun q => absurd q hk)
/-- the settling, on both sides -/
theorem l_pset {post : Int32 → (St × St × St × St) → Prop} (hI : Inv xR xU xI xW n ni w) (h : post (fSet xR xU xI xW n ni w).1 (fSet xR xU xI xW n ni w).2) : wp_R_settle xR xU xI xW post := p_settle hI.1.1 hI.2.1.1 hI.2.2.1.1 hI.1.2 hI.2.1.2 hI.2.2.1.2 h
theorem l_mset {post : Int32 → St → Prop} (hI : Inv xR xU xI xW n ni w) (hz : Rel (sF xR 0 0) xU xI xW z) (h : ∀ y, Good (fSet xR xU xI xW n ni w).2.1 (fSet xR xU xI xW n ni w).2.2.1 (fSet xR xU xI xW n ni w).2.2.2.1 (fSet xR xU xI xW n ni w).2.2.2.2 y → y.2 0 = 0 → post (fSet xR xU xI xW n ni w).1 y) : wp_M_settle z post := by
  have hI0 : Inv (sF xR 0 0) xU xI xW n ni w := hI
  obtain ⟨w', hI2, hS2, -⟩ := p_setS hI
  refine m_settle hz hI0 (fun y hy => ?_)
  rw [p_ghost] at hy
  rw [p_ghost]
  exact h y ⟨n, ni, w', 0, hI2, hS2, hy⟩ (r_R0 hy)
end ENDS
