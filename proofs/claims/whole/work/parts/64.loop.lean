/-! all turns of the law -/
theorem wl_good {xs : Nat → Int32} {L : Nat} (hL : L ≤ 2560) : ∀ (f j : Nat), j + f = 513 → 5 * j ≤ L → ∀ (xR xU xI xW xM : St) (xo : Nat → Int64), Good xR xU xI xW xM → wl_law xs L f xR xU xI xW xM xo (nI (5 * j)) := by
  intro f
  induction f with
  | zero => intro j hj hjL; omega
  | succ f ih =>
    intro j hj hjL xR xU xI xW xM xo hg
    refine ⟨fun _ => trivial, fun c => ?_⟩
    have e5 : (5 : Int32).toInt = 5 := by decide
    have eL : (Int32.ofNat L).toInt = L := nI_toInt (by omega)
    have es : (Int32.ofNat L - 5).toInt = (L : Int) - 5 := by
      rw [Int32.toInt_sub, eL, e5]
      exact Int.bmod_eq_of_le (by omega) (by omega)
    have hc := Int32.le_iff_toInt_le.mp (Int32.not_lt.mp c)
    rw [es, nI_toInt (by omega)] at hc
    have hlt : 5 * j + 5 ≤ L := by omega
    have hv : ∀ k, k < 5 → vp_in (nI (5 * j) + nI k) L := by
      intro k hk
      rw [nI_add]
      exact vp_in_nI (by omega) (by omega)
    have h0 : vp_in (nI (5 * j)) L := vp_in_nI (by omega) (by omega)
    have h1 : vp_in (nI (5 * j) + 1) L := hv 1 (by omega)
    have h2 : vp_in (nI (5 * j) + 2) L := hv 2 (by omega)
    have h3 : vp_in (nI (5 * j) + 3) L := hv 3 (by omega)
    have h4 : vp_in (nI (5 * j) + 4) L := hv 4 (by omega)
    have hn : nxt (wl_law xs L f) (nI (5 * j)) := by
      intro yR yU yI yW yM yo hy v hv
      have e : v = nI (5 * (j + 1)) := by
        rw [hv, show (5 : Int32) = nI 5 from rfl, nI_add]
        exact congrArg nI (by omega)
      rw [e]
      exact ih (j + 1) (by omega) (by omega) yR yU yI yW yM yo hy
    exact ⟨h0, fun _ => case_0 hn hg h1 h2 h3 h4, fun _ => ⟨fun _ => case_1 hn hg h1 h2, fun _ => ⟨fun _ => case_2 hn hg h1, fun _ => ⟨fun _ => case_3 hn hg h1 h2, fun _ => ⟨fun _ => case_4 hn hg h1 h2, fun _ => ⟨fun _ => case_5 hn hg h1 h2, fun _ => ⟨fun _ => case_6 hn hg h1, fun _ => ⟨fun _ => case_7 hn hg h1 h2 h3, fun _ => ⟨fun _ => case_8 hn hg h1 h2, fun _ => ⟨fun _ => case_9 hn hg h1 h2, fun _ => ⟨fun _ => case_10 hn hg h1 h2, fun _ => ⟨fun _ => case_11 hn hg h1 h2, fun _ => ⟨fun _ => case_12 hn hg h1 h2, fun _ => ⟨fun _ => case_13 hn hg h1, fun _ => ⟨fun _ => case_14 hn hg h1 h2, fun _ => ⟨fun _ => case_15 hn hg h1 h2, fun _ => ⟨fun _ => case_16 hn hg h1, fun _ => hn xR xU xI xW xM xo hg⟩⟩⟩⟩⟩⟩⟩⟩⟩⟩⟩⟩⟩⟩⟩⟩⟩
theorem start_good : Good (sF x00 5 (600 : Int32)) x00 x00 x00 (sF x00 2 (600 : Int32)) := by
  have z1 : inR (0 : Int32) 0 100000 := ⟨by decide, by decide⟩
  have z2 : inR (0 : Int32) 0 10000000 := ⟨by decide, by decide⟩
  refine ⟨0, 0, 0, 0, ⟨⟨by omega, rfl⟩, ⟨by omega, rfl⟩, ⟨by omega, rfl, fun k hk => absurd hk (Nat.not_lt_zero k)⟩, ⟨by decide, by decide⟩, ⟨by decide, by decide⟩, ⟨fun u hu => absurd hu (Nat.not_lt_zero u), fun u hu => absurd hu (Nat.not_lt_zero u), fun _ _ _ => rfl, fun _ _ => z1⟩, fun _ _ => z2, ⟨fun i hi => absurd hi (Nat.not_lt_zero i), fun i hi => absurd hi (Nat.not_lt_zero i), fun _ _ _ => rfl, fun i j _ hj => absurd hj (Nat.not_lt_zero j)⟩⟩, ⟨fun v hv => absurd hv (Nat.not_lt_zero v), Or.inl rfl, fun i hi => absurd hi (Nat.not_lt_zero i)⟩, ?_⟩
  exact ⟨rfl, rfl, rfl, rfl, rfl, rfl, rfl, rfl, rfl, rfl, rfl, rfl, rfl, rfl, rfl, rfl, rfl, rfl, rfl, rfl, rfl, rfl, rfl, rfl, rfl, rfl, rfl⟩
theorem pure_all {L : Nat} {xs : Nat → Int32} (h : L ≤ 2560) : wl_law xs L 513 (sF x00 5 (600 : Int32)) x00 x00 x00 (sF x00 2 (600 : Int32)) (fun _ => 0) (0 : Int32) := wl_good h 513 0 rfl (by omega) _ _ _ _ _ _ start_good
