/-! what ties the reference's cells to the class's: row for row the same (the reference's 'thrown' alone is its own) -/
def Rel (xR xU xI xW xM : St) : Prop := xM.1 4 = xU.1 0 ∧ xM.1 5 = xU.1 1 ∧ xM.1 6 = xU.1 2 ∧ xM.1 7 = xU.1 3 ∧ xM.1 8 = xU.1 5 ∧ xM.1 9 = xU.1 6 ∧ xM.1 10 = xU.1 7 ∧ xM.1 11 = xU.1 4 ∧ xM.1 12 = xU.1 8 ∧ xM.1 13 = xU.1 9 ∧ xM.1 14 = xR.1 3 ∧ xM.1 16 = xI.1 0 ∧ xM.1 17 = xI.1 1 ∧ xM.1 18 = xI.1 2 ∧ xM.1 19 = xI.1 3 ∧ xM.1 20 = xI.1 4 ∧ xM.1 21 = xI.1 5 ∧ xM.1 22 = xI.1 6 ∧ xM.1 23 = xI.1 7 ∧ xM.1 24 = xI.1 8 ∧ xM.1 26 = xW.1 0 ∧ xM.2 1 = xR.2 4 ∧ xM.2 2 = xR.2 5 ∧ xM.2 3 = xU.2 10 ∧ xM.2 15 = xI.2 9 ∧ xM.2 25 = xW.2 1 ∧ xM.2 0 = xR.2 0
theorem r_U0 {xR xU xI xW xM : St} (h : Rel xR xU xI xW xM) : xM.1 4 = xU.1 0 := h.1
theorem r_U1 {xR xU xI xW xM : St} (h : Rel xR xU xI xW xM) : xM.1 5 = xU.1 1 := h.2.1
theorem r_U2 {xR xU xI xW xM : St} (h : Rel xR xU xI xW xM) : xM.1 6 = xU.1 2 := h.2.2.1
theorem r_U3 {xR xU xI xW xM : St} (h : Rel xR xU xI xW xM) : xM.1 7 = xU.1 3 := h.2.2.2.1
theorem r_U5 {xR xU xI xW xM : St} (h : Rel xR xU xI xW xM) : xM.1 8 = xU.1 5 := h.2.2.2.2.1
theorem r_U6 {xR xU xI xW xM : St} (h : Rel xR xU xI xW xM) : xM.1 9 = xU.1 6 := h.2.2.2.2.2.1
theorem r_U7 {xR xU xI xW xM : St} (h : Rel xR xU xI xW xM) : xM.1 10 = xU.1 7 := h.2.2.2.2.2.2.1
theorem r_U4 {xR xU xI xW xM : St} (h : Rel xR xU xI xW xM) : xM.1 11 = xU.1 4 := h.2.2.2.2.2.2.2.1
theorem r_U8 {xR xU xI xW xM : St} (h : Rel xR xU xI xW xM) : xM.1 12 = xU.1 8 := h.2.2.2.2.2.2.2.2.1
theorem r_U9 {xR xU xI xW xM : St} (h : Rel xR xU xI xW xM) : xM.1 13 = xU.1 9 := h.2.2.2.2.2.2.2.2.2.1
theorem r_R3 {xR xU xI xW xM : St} (h : Rel xR xU xI xW xM) : xM.1 14 = xR.1 3 := h.2.2.2.2.2.2.2.2.2.2.1
theorem r_I0 {xR xU xI xW xM : St} (h : Rel xR xU xI xW xM) : xM.1 16 = xI.1 0 := h.2.2.2.2.2.2.2.2.2.2.2.1
theorem r_I1 {xR xU xI xW xM : St} (h : Rel xR xU xI xW xM) : xM.1 17 = xI.1 1 := h.2.2.2.2.2.2.2.2.2.2.2.2.1
theorem r_I2 {xR xU xI xW xM : St} (h : Rel xR xU xI xW xM) : xM.1 18 = xI.1 2 := h.2.2.2.2.2.2.2.2.2.2.2.2.2.1
theorem r_I3 {xR xU xI xW xM : St} (h : Rel xR xU xI xW xM) : xM.1 19 = xI.1 3 := h.2.2.2.2.2.2.2.2.2.2.2.2.2.2.1
theorem r_I4 {xR xU xI xW xM : St} (h : Rel xR xU xI xW xM) : xM.1 20 = xI.1 4 := h.2.2.2.2.2.2.2.2.2.2.2.2.2.2.2.1
theorem r_I5 {xR xU xI xW xM : St} (h : Rel xR xU xI xW xM) : xM.1 21 = xI.1 5 := h.2.2.2.2.2.2.2.2.2.2.2.2.2.2.2.2.1
theorem r_I6 {xR xU xI xW xM : St} (h : Rel xR xU xI xW xM) : xM.1 22 = xI.1 6 := h.2.2.2.2.2.2.2.2.2.2.2.2.2.2.2.2.2.1
theorem r_I7 {xR xU xI xW xM : St} (h : Rel xR xU xI xW xM) : xM.1 23 = xI.1 7 := h.2.2.2.2.2.2.2.2.2.2.2.2.2.2.2.2.2.2.1
theorem r_I8 {xR xU xI xW xM : St} (h : Rel xR xU xI xW xM) : xM.1 24 = xI.1 8 := h.2.2.2.2.2.2.2.2.2.2.2.2.2.2.2.2.2.2.2.1
theorem r_W0 {xR xU xI xW xM : St} (h : Rel xR xU xI xW xM) : xM.1 26 = xW.1 0 := h.2.2.2.2.2.2.2.2.2.2.2.2.2.2.2.2.2.2.2.2.1
theorem r_R4 {xR xU xI xW xM : St} (h : Rel xR xU xI xW xM) : xM.2 1 = xR.2 4 := h.2.2.2.2.2.2.2.2.2.2.2.2.2.2.2.2.2.2.2.2.2.1
theorem r_R5 {xR xU xI xW xM : St} (h : Rel xR xU xI xW xM) : xM.2 2 = xR.2 5 := h.2.2.2.2.2.2.2.2.2.2.2.2.2.2.2.2.2.2.2.2.2.2.1
theorem r_U10 {xR xU xI xW xM : St} (h : Rel xR xU xI xW xM) : xM.2 3 = xU.2 10 := h.2.2.2.2.2.2.2.2.2.2.2.2.2.2.2.2.2.2.2.2.2.2.2.1
theorem r_I9 {xR xU xI xW xM : St} (h : Rel xR xU xI xW xM) : xM.2 15 = xI.2 9 := h.2.2.2.2.2.2.2.2.2.2.2.2.2.2.2.2.2.2.2.2.2.2.2.2.1
theorem r_W1 {xR xU xI xW xM : St} (h : Rel xR xU xI xW xM) : xM.2 25 = xW.2 1 := h.2.2.2.2.2.2.2.2.2.2.2.2.2.2.2.2.2.2.2.2.2.2.2.2.2.1
theorem r_R0 {xR xU xI xW xM : St} (h : Rel xR xU xI xW xM) : xM.2 0 = xR.2 0 := h.2.2.2.2.2.2.2.2.2.2.2.2.2.2.2.2.2.2.2.2.2.2.2.2.2.2
theorem s_U0 {xR xU xI xW xM : St} (h : Rel xR xU xI xW xM) (i : Nat) (v : Int32) : Rel xR (sA xU 0 i v) xI xW (sA xM 4 i v) := by
  obtain ⟨h0, h1, h2, h3, h4, h5, h6, h7, h8, h9, h10, h11, h12, h13, h14, h15, h16, h17, h18, h19, h20, h21, h22, h23, h24, h25, h26⟩ := h
  exact ⟨(show upd (xM.1 4) i v = upd (xU.1 0) i v by rw [h0]), h1, h2, h3, h4, h5, h6, h7, h8, h9, h10, h11, h12, h13, h14, h15, h16, h17, h18, h19, h20, h21, h22, h23, h24, h25, h26⟩
theorem z_U0 {xR xU xI xW xM : St} (h : Rel xR xU xI xW xM) (f : Nat → Int32) : Rel xR (sR xU 0 f) xI xW (sR xM 4 f) := by
  obtain ⟨h0, h1, h2, h3, h4, h5, h6, h7, h8, h9, h10, h11, h12, h13, h14, h15, h16, h17, h18, h19, h20, h21, h22, h23, h24, h25, h26⟩ := h
  exact ⟨rfl, h1, h2, h3, h4, h5, h6, h7, h8, h9, h10, h11, h12, h13, h14, h15, h16, h17, h18, h19, h20, h21, h22, h23, h24, h25, h26⟩
theorem s_U1 {xR xU xI xW xM : St} (h : Rel xR xU xI xW xM) (i : Nat) (v : Int32) : Rel xR (sA xU 1 i v) xI xW (sA xM 5 i v) := by
  obtain ⟨h0, h1, h2, h3, h4, h5, h6, h7, h8, h9, h10, h11, h12, h13, h14, h15, h16, h17, h18, h19, h20, h21, h22, h23, h24, h25, h26⟩ := h
  exact ⟨h0, (show upd (xM.1 5) i v = upd (xU.1 1) i v by rw [h1]), h2, h3, h4, h5, h6, h7, h8, h9, h10, h11, h12, h13, h14, h15, h16, h17, h18, h19, h20, h21, h22, h23, h24, h25, h26⟩
theorem z_U1 {xR xU xI xW xM : St} (h : Rel xR xU xI xW xM) (f : Nat → Int32) : Rel xR (sR xU 1 f) xI xW (sR xM 5 f) := by
  obtain ⟨h0, h1, h2, h3, h4, h5, h6, h7, h8, h9, h10, h11, h12, h13, h14, h15, h16, h17, h18, h19, h20, h21, h22, h23, h24, h25, h26⟩ := h
  exact ⟨h0, rfl, h2, h3, h4, h5, h6, h7, h8, h9, h10, h11, h12, h13, h14, h15, h16, h17, h18, h19, h20, h21, h22, h23, h24, h25, h26⟩
theorem s_U2 {xR xU xI xW xM : St} (h : Rel xR xU xI xW xM) (i : Nat) (v : Int32) : Rel xR (sA xU 2 i v) xI xW (sA xM 6 i v) := by
  obtain ⟨h0, h1, h2, h3, h4, h5, h6, h7, h8, h9, h10, h11, h12, h13, h14, h15, h16, h17, h18, h19, h20, h21, h22, h23, h24, h25, h26⟩ := h
  exact ⟨h0, h1, (show upd (xM.1 6) i v = upd (xU.1 2) i v by rw [h2]), h3, h4, h5, h6, h7, h8, h9, h10, h11, h12, h13, h14, h15, h16, h17, h18, h19, h20, h21, h22, h23, h24, h25, h26⟩
theorem z_U2 {xR xU xI xW xM : St} (h : Rel xR xU xI xW xM) (f : Nat → Int32) : Rel xR (sR xU 2 f) xI xW (sR xM 6 f) := by
  obtain ⟨h0, h1, h2, h3, h4, h5, h6, h7, h8, h9, h10, h11, h12, h13, h14, h15, h16, h17, h18, h19, h20, h21, h22, h23, h24, h25, h26⟩ := h
  exact ⟨h0, h1, rfl, h3, h4, h5, h6, h7, h8, h9, h10, h11, h12, h13, h14, h15, h16, h17, h18, h19, h20, h21, h22, h23, h24, h25, h26⟩
theorem s_U3 {xR xU xI xW xM : St} (h : Rel xR xU xI xW xM) (i : Nat) (v : Int32) : Rel xR (sA xU 3 i v) xI xW (sA xM 7 i v) := by
  obtain ⟨h0, h1, h2, h3, h4, h5, h6, h7, h8, h9, h10, h11, h12, h13, h14, h15, h16, h17, h18, h19, h20, h21, h22, h23, h24, h25, h26⟩ := h
  exact ⟨h0, h1, h2, (show upd (xM.1 7) i v = upd (xU.1 3) i v by rw [h3]), h4, h5, h6, h7, h8, h9, h10, h11, h12, h13, h14, h15, h16, h17, h18, h19, h20, h21, h22, h23, h24, h25, h26⟩
theorem z_U3 {xR xU xI xW xM : St} (h : Rel xR xU xI xW xM) (f : Nat → Int32) : Rel xR (sR xU 3 f) xI xW (sR xM 7 f) := by
  obtain ⟨h0, h1, h2, h3, h4, h5, h6, h7, h8, h9, h10, h11, h12, h13, h14, h15, h16, h17, h18, h19, h20, h21, h22, h23, h24, h25, h26⟩ := h
  exact ⟨h0, h1, h2, rfl, h4, h5, h6, h7, h8, h9, h10, h11, h12, h13, h14, h15, h16, h17, h18, h19, h20, h21, h22, h23, h24, h25, h26⟩
theorem s_U5 {xR xU xI xW xM : St} (h : Rel xR xU xI xW xM) (i : Nat) (v : Int32) : Rel xR (sA xU 5 i v) xI xW (sA xM 8 i v) := by
  obtain ⟨h0, h1, h2, h3, h4, h5, h6, h7, h8, h9, h10, h11, h12, h13, h14, h15, h16, h17, h18, h19, h20, h21, h22, h23, h24, h25, h26⟩ := h
  exact ⟨h0, h1, h2, h3, (show upd (xM.1 8) i v = upd (xU.1 5) i v by rw [h4]), h5, h6, h7, h8, h9, h10, h11, h12, h13, h14, h15, h16, h17, h18, h19, h20, h21, h22, h23, h24, h25, h26⟩
theorem z_U5 {xR xU xI xW xM : St} (h : Rel xR xU xI xW xM) (f : Nat → Int32) : Rel xR (sR xU 5 f) xI xW (sR xM 8 f) := by
  obtain ⟨h0, h1, h2, h3, h4, h5, h6, h7, h8, h9, h10, h11, h12, h13, h14, h15, h16, h17, h18, h19, h20, h21, h22, h23, h24, h25, h26⟩ := h
  exact ⟨h0, h1, h2, h3, rfl, h5, h6, h7, h8, h9, h10, h11, h12, h13, h14, h15, h16, h17, h18, h19, h20, h21, h22, h23, h24, h25, h26⟩
theorem s_U6 {xR xU xI xW xM : St} (h : Rel xR xU xI xW xM) (i : Nat) (v : Int32) : Rel xR (sA xU 6 i v) xI xW (sA xM 9 i v) := by
  obtain ⟨h0, h1, h2, h3, h4, h5, h6, h7, h8, h9, h10, h11, h12, h13, h14, h15, h16, h17, h18, h19, h20, h21, h22, h23, h24, h25, h26⟩ := h
  exact ⟨h0, h1, h2, h3, h4, (show upd (xM.1 9) i v = upd (xU.1 6) i v by rw [h5]), h6, h7, h8, h9, h10, h11, h12, h13, h14, h15, h16, h17, h18, h19, h20, h21, h22, h23, h24, h25, h26⟩
theorem z_U6 {xR xU xI xW xM : St} (h : Rel xR xU xI xW xM) (f : Nat → Int32) : Rel xR (sR xU 6 f) xI xW (sR xM 9 f) := by
  obtain ⟨h0, h1, h2, h3, h4, h5, h6, h7, h8, h9, h10, h11, h12, h13, h14, h15, h16, h17, h18, h19, h20, h21, h22, h23, h24, h25, h26⟩ := h
  exact ⟨h0, h1, h2, h3, h4, rfl, h6, h7, h8, h9, h10, h11, h12, h13, h14, h15, h16, h17, h18, h19, h20, h21, h22, h23, h24, h25, h26⟩
theorem s_U7 {xR xU xI xW xM : St} (h : Rel xR xU xI xW xM) (i : Nat) (v : Int32) : Rel xR (sA xU 7 i v) xI xW (sA xM 10 i v) := by
  obtain ⟨h0, h1, h2, h3, h4, h5, h6, h7, h8, h9, h10, h11, h12, h13, h14, h15, h16, h17, h18, h19, h20, h21, h22, h23, h24, h25, h26⟩ := h
  exact ⟨h0, h1, h2, h3, h4, h5, (show upd (xM.1 10) i v = upd (xU.1 7) i v by rw [h6]), h7, h8, h9, h10, h11, h12, h13, h14, h15, h16, h17, h18, h19, h20, h21, h22, h23, h24, h25, h26⟩
theorem z_U7 {xR xU xI xW xM : St} (h : Rel xR xU xI xW xM) (f : Nat → Int32) : Rel xR (sR xU 7 f) xI xW (sR xM 10 f) := by
  obtain ⟨h0, h1, h2, h3, h4, h5, h6, h7, h8, h9, h10, h11, h12, h13, h14, h15, h16, h17, h18, h19, h20, h21, h22, h23, h24, h25, h26⟩ := h
  exact ⟨h0, h1, h2, h3, h4, h5, rfl, h7, h8, h9, h10, h11, h12, h13, h14, h15, h16, h17, h18, h19, h20, h21, h22, h23, h24, h25, h26⟩
theorem s_U4 {xR xU xI xW xM : St} (h : Rel xR xU xI xW xM) (i : Nat) (v : Int32) : Rel xR (sA xU 4 i v) xI xW (sA xM 11 i v) := by
  obtain ⟨h0, h1, h2, h3, h4, h5, h6, h7, h8, h9, h10, h11, h12, h13, h14, h15, h16, h17, h18, h19, h20, h21, h22, h23, h24, h25, h26⟩ := h
  exact ⟨h0, h1, h2, h3, h4, h5, h6, (show upd (xM.1 11) i v = upd (xU.1 4) i v by rw [h7]), h8, h9, h10, h11, h12, h13, h14, h15, h16, h17, h18, h19, h20, h21, h22, h23, h24, h25, h26⟩
theorem z_U4 {xR xU xI xW xM : St} (h : Rel xR xU xI xW xM) (f : Nat → Int32) : Rel xR (sR xU 4 f) xI xW (sR xM 11 f) := by
  obtain ⟨h0, h1, h2, h3, h4, h5, h6, h7, h8, h9, h10, h11, h12, h13, h14, h15, h16, h17, h18, h19, h20, h21, h22, h23, h24, h25, h26⟩ := h
  exact ⟨h0, h1, h2, h3, h4, h5, h6, rfl, h8, h9, h10, h11, h12, h13, h14, h15, h16, h17, h18, h19, h20, h21, h22, h23, h24, h25, h26⟩
theorem s_U8 {xR xU xI xW xM : St} (h : Rel xR xU xI xW xM) (i : Nat) (v : Int32) : Rel xR (sA xU 8 i v) xI xW (sA xM 12 i v) := by
  obtain ⟨h0, h1, h2, h3, h4, h5, h6, h7, h8, h9, h10, h11, h12, h13, h14, h15, h16, h17, h18, h19, h20, h21, h22, h23, h24, h25, h26⟩ := h
  exact ⟨h0, h1, h2, h3, h4, h5, h6, h7, (show upd (xM.1 12) i v = upd (xU.1 8) i v by rw [h8]), h9, h10, h11, h12, h13, h14, h15, h16, h17, h18, h19, h20, h21, h22, h23, h24, h25, h26⟩
theorem z_U8 {xR xU xI xW xM : St} (h : Rel xR xU xI xW xM) (f : Nat → Int32) : Rel xR (sR xU 8 f) xI xW (sR xM 12 f) := by
  obtain ⟨h0, h1, h2, h3, h4, h5, h6, h7, h8, h9, h10, h11, h12, h13, h14, h15, h16, h17, h18, h19, h20, h21, h22, h23, h24, h25, h26⟩ := h
  exact ⟨h0, h1, h2, h3, h4, h5, h6, h7, rfl, h9, h10, h11, h12, h13, h14, h15, h16, h17, h18, h19, h20, h21, h22, h23, h24, h25, h26⟩
theorem s_U9 {xR xU xI xW xM : St} (h : Rel xR xU xI xW xM) (i : Nat) (v : Int32) : Rel xR (sA xU 9 i v) xI xW (sA xM 13 i v) := by
  obtain ⟨h0, h1, h2, h3, h4, h5, h6, h7, h8, h9, h10, h11, h12, h13, h14, h15, h16, h17, h18, h19, h20, h21, h22, h23, h24, h25, h26⟩ := h
  exact ⟨h0, h1, h2, h3, h4, h5, h6, h7, h8, (show upd (xM.1 13) i v = upd (xU.1 9) i v by rw [h9]), h10, h11, h12, h13, h14, h15, h16, h17, h18, h19, h20, h21, h22, h23, h24, h25, h26⟩
theorem z_U9 {xR xU xI xW xM : St} (h : Rel xR xU xI xW xM) (f : Nat → Int32) : Rel xR (sR xU 9 f) xI xW (sR xM 13 f) := by
  obtain ⟨h0, h1, h2, h3, h4, h5, h6, h7, h8, h9, h10, h11, h12, h13, h14, h15, h16, h17, h18, h19, h20, h21, h22, h23, h24, h25, h26⟩ := h
  exact ⟨h0, h1, h2, h3, h4, h5, h6, h7, h8, rfl, h10, h11, h12, h13, h14, h15, h16, h17, h18, h19, h20, h21, h22, h23, h24, h25, h26⟩
theorem s_R3 {xR xU xI xW xM : St} (h : Rel xR xU xI xW xM) (i : Nat) (v : Int32) : Rel (sA xR 3 i v) xU xI xW (sA xM 14 i v) := by
  obtain ⟨h0, h1, h2, h3, h4, h5, h6, h7, h8, h9, h10, h11, h12, h13, h14, h15, h16, h17, h18, h19, h20, h21, h22, h23, h24, h25, h26⟩ := h
  exact ⟨h0, h1, h2, h3, h4, h5, h6, h7, h8, h9, (show upd (xM.1 14) i v = upd (xR.1 3) i v by rw [h10]), h11, h12, h13, h14, h15, h16, h17, h18, h19, h20, h21, h22, h23, h24, h25, h26⟩
theorem z_R3 {xR xU xI xW xM : St} (h : Rel xR xU xI xW xM) (f : Nat → Int32) : Rel (sR xR 3 f) xU xI xW (sR xM 14 f) := by
  obtain ⟨h0, h1, h2, h3, h4, h5, h6, h7, h8, h9, h10, h11, h12, h13, h14, h15, h16, h17, h18, h19, h20, h21, h22, h23, h24, h25, h26⟩ := h
  exact ⟨h0, h1, h2, h3, h4, h5, h6, h7, h8, h9, rfl, h11, h12, h13, h14, h15, h16, h17, h18, h19, h20, h21, h22, h23, h24, h25, h26⟩
theorem s_I0 {xR xU xI xW xM : St} (h : Rel xR xU xI xW xM) (i : Nat) (v : Int32) : Rel xR xU (sA xI 0 i v) xW (sA xM 16 i v) := by
  obtain ⟨h0, h1, h2, h3, h4, h5, h6, h7, h8, h9, h10, h11, h12, h13, h14, h15, h16, h17, h18, h19, h20, h21, h22, h23, h24, h25, h26⟩ := h
  exact ⟨h0, h1, h2, h3, h4, h5, h6, h7, h8, h9, h10, (show upd (xM.1 16) i v = upd (xI.1 0) i v by rw [h11]), h12, h13, h14, h15, h16, h17, h18, h19, h20, h21, h22, h23, h24, h25, h26⟩
theorem z_I0 {xR xU xI xW xM : St} (h : Rel xR xU xI xW xM) (f : Nat → Int32) : Rel xR xU (sR xI 0 f) xW (sR xM 16 f) := by
  obtain ⟨h0, h1, h2, h3, h4, h5, h6, h7, h8, h9, h10, h11, h12, h13, h14, h15, h16, h17, h18, h19, h20, h21, h22, h23, h24, h25, h26⟩ := h
  exact ⟨h0, h1, h2, h3, h4, h5, h6, h7, h8, h9, h10, rfl, h12, h13, h14, h15, h16, h17, h18, h19, h20, h21, h22, h23, h24, h25, h26⟩
theorem s_I1 {xR xU xI xW xM : St} (h : Rel xR xU xI xW xM) (i : Nat) (v : Int32) : Rel xR xU (sA xI 1 i v) xW (sA xM 17 i v) := by
  obtain ⟨h0, h1, h2, h3, h4, h5, h6, h7, h8, h9, h10, h11, h12, h13, h14, h15, h16, h17, h18, h19, h20, h21, h22, h23, h24, h25, h26⟩ := h
  exact ⟨h0, h1, h2, h3, h4, h5, h6, h7, h8, h9, h10, h11, (show upd (xM.1 17) i v = upd (xI.1 1) i v by rw [h12]), h13, h14, h15, h16, h17, h18, h19, h20, h21, h22, h23, h24, h25, h26⟩
theorem z_I1 {xR xU xI xW xM : St} (h : Rel xR xU xI xW xM) (f : Nat → Int32) : Rel xR xU (sR xI 1 f) xW (sR xM 17 f) := by
  obtain ⟨h0, h1, h2, h3, h4, h5, h6, h7, h8, h9, h10, h11, h12, h13, h14, h15, h16, h17, h18, h19, h20, h21, h22, h23, h24, h25, h26⟩ := h
  exact ⟨h0, h1, h2, h3, h4, h5, h6, h7, h8, h9, h10, h11, rfl, h13, h14, h15, h16, h17, h18, h19, h20, h21, h22, h23, h24, h25, h26⟩
theorem s_I2 {xR xU xI xW xM : St} (h : Rel xR xU xI xW xM) (i : Nat) (v : Int32) : Rel xR xU (sA xI 2 i v) xW (sA xM 18 i v) := by
  obtain ⟨h0, h1, h2, h3, h4, h5, h6, h7, h8, h9, h10, h11, h12, h13, h14, h15, h16, h17, h18, h19, h20, h21, h22, h23, h24, h25, h26⟩ := h
  exact ⟨h0, h1, h2, h3, h4, h5, h6, h7, h8, h9, h10, h11, h12, (show upd (xM.1 18) i v = upd (xI.1 2) i v by rw [h13]), h14, h15, h16, h17, h18, h19, h20, h21, h22, h23, h24, h25, h26⟩
theorem z_I2 {xR xU xI xW xM : St} (h : Rel xR xU xI xW xM) (f : Nat → Int32) : Rel xR xU (sR xI 2 f) xW (sR xM 18 f) := by
  obtain ⟨h0, h1, h2, h3, h4, h5, h6, h7, h8, h9, h10, h11, h12, h13, h14, h15, h16, h17, h18, h19, h20, h21, h22, h23, h24, h25, h26⟩ := h
  exact ⟨h0, h1, h2, h3, h4, h5, h6, h7, h8, h9, h10, h11, h12, rfl, h14, h15, h16, h17, h18, h19, h20, h21, h22, h23, h24, h25, h26⟩
theorem s_I3 {xR xU xI xW xM : St} (h : Rel xR xU xI xW xM) (i : Nat) (v : Int32) : Rel xR xU (sA xI 3 i v) xW (sA xM 19 i v) := by
  obtain ⟨h0, h1, h2, h3, h4, h5, h6, h7, h8, h9, h10, h11, h12, h13, h14, h15, h16, h17, h18, h19, h20, h21, h22, h23, h24, h25, h26⟩ := h
  exact ⟨h0, h1, h2, h3, h4, h5, h6, h7, h8, h9, h10, h11, h12, h13, (show upd (xM.1 19) i v = upd (xI.1 3) i v by rw [h14]), h15, h16, h17, h18, h19, h20, h21, h22, h23, h24, h25, h26⟩
theorem z_I3 {xR xU xI xW xM : St} (h : Rel xR xU xI xW xM) (f : Nat → Int32) : Rel xR xU (sR xI 3 f) xW (sR xM 19 f) := by
  obtain ⟨h0, h1, h2, h3, h4, h5, h6, h7, h8, h9, h10, h11, h12, h13, h14, h15, h16, h17, h18, h19, h20, h21, h22, h23, h24, h25, h26⟩ := h
  exact ⟨h0, h1, h2, h3, h4, h5, h6, h7, h8, h9, h10, h11, h12, h13, rfl, h15, h16, h17, h18, h19, h20, h21, h22, h23, h24, h25, h26⟩
theorem s_I4 {xR xU xI xW xM : St} (h : Rel xR xU xI xW xM) (i : Nat) (v : Int32) : Rel xR xU (sA xI 4 i v) xW (sA xM 20 i v) := by
  obtain ⟨h0, h1, h2, h3, h4, h5, h6, h7, h8, h9, h10, h11, h12, h13, h14, h15, h16, h17, h18, h19, h20, h21, h22, h23, h24, h25, h26⟩ := h
  exact ⟨h0, h1, h2, h3, h4, h5, h6, h7, h8, h9, h10, h11, h12, h13, h14, (show upd (xM.1 20) i v = upd (xI.1 4) i v by rw [h15]), h16, h17, h18, h19, h20, h21, h22, h23, h24, h25, h26⟩
theorem z_I4 {xR xU xI xW xM : St} (h : Rel xR xU xI xW xM) (f : Nat → Int32) : Rel xR xU (sR xI 4 f) xW (sR xM 20 f) := by
  obtain ⟨h0, h1, h2, h3, h4, h5, h6, h7, h8, h9, h10, h11, h12, h13, h14, h15, h16, h17, h18, h19, h20, h21, h22, h23, h24, h25, h26⟩ := h
  exact ⟨h0, h1, h2, h3, h4, h5, h6, h7, h8, h9, h10, h11, h12, h13, h14, rfl, h16, h17, h18, h19, h20, h21, h22, h23, h24, h25, h26⟩
theorem s_I5 {xR xU xI xW xM : St} (h : Rel xR xU xI xW xM) (i : Nat) (v : Int32) : Rel xR xU (sA xI 5 i v) xW (sA xM 21 i v) := by
  obtain ⟨h0, h1, h2, h3, h4, h5, h6, h7, h8, h9, h10, h11, h12, h13, h14, h15, h16, h17, h18, h19, h20, h21, h22, h23, h24, h25, h26⟩ := h
  exact ⟨h0, h1, h2, h3, h4, h5, h6, h7, h8, h9, h10, h11, h12, h13, h14, h15, (show upd (xM.1 21) i v = upd (xI.1 5) i v by rw [h16]), h17, h18, h19, h20, h21, h22, h23, h24, h25, h26⟩
theorem z_I5 {xR xU xI xW xM : St} (h : Rel xR xU xI xW xM) (f : Nat → Int32) : Rel xR xU (sR xI 5 f) xW (sR xM 21 f) := by
  obtain ⟨h0, h1, h2, h3, h4, h5, h6, h7, h8, h9, h10, h11, h12, h13, h14, h15, h16, h17, h18, h19, h20, h21, h22, h23, h24, h25, h26⟩ := h
  exact ⟨h0, h1, h2, h3, h4, h5, h6, h7, h8, h9, h10, h11, h12, h13, h14, h15, rfl, h17, h18, h19, h20, h21, h22, h23, h24, h25, h26⟩
theorem s_I6 {xR xU xI xW xM : St} (h : Rel xR xU xI xW xM) (i : Nat) (v : Int32) : Rel xR xU (sA xI 6 i v) xW (sA xM 22 i v) := by
  obtain ⟨h0, h1, h2, h3, h4, h5, h6, h7, h8, h9, h10, h11, h12, h13, h14, h15, h16, h17, h18, h19, h20, h21, h22, h23, h24, h25, h26⟩ := h
  exact ⟨h0, h1, h2, h3, h4, h5, h6, h7, h8, h9, h10, h11, h12, h13, h14, h15, h16, (show upd (xM.1 22) i v = upd (xI.1 6) i v by rw [h17]), h18, h19, h20, h21, h22, h23, h24, h25, h26⟩
theorem z_I6 {xR xU xI xW xM : St} (h : Rel xR xU xI xW xM) (f : Nat → Int32) : Rel xR xU (sR xI 6 f) xW (sR xM 22 f) := by
  obtain ⟨h0, h1, h2, h3, h4, h5, h6, h7, h8, h9, h10, h11, h12, h13, h14, h15, h16, h17, h18, h19, h20, h21, h22, h23, h24, h25, h26⟩ := h
  exact ⟨h0, h1, h2, h3, h4, h5, h6, h7, h8, h9, h10, h11, h12, h13, h14, h15, h16, rfl, h18, h19, h20, h21, h22, h23, h24, h25, h26⟩
theorem s_I7 {xR xU xI xW xM : St} (h : Rel xR xU xI xW xM) (i : Nat) (v : Int32) : Rel xR xU (sA xI 7 i v) xW (sA xM 23 i v) := by
  obtain ⟨h0, h1, h2, h3, h4, h5, h6, h7, h8, h9, h10, h11, h12, h13, h14, h15, h16, h17, h18, h19, h20, h21, h22, h23, h24, h25, h26⟩ := h
  exact ⟨h0, h1, h2, h3, h4, h5, h6, h7, h8, h9, h10, h11, h12, h13, h14, h15, h16, h17, (show upd (xM.1 23) i v = upd (xI.1 7) i v by rw [h18]), h19, h20, h21, h22, h23, h24, h25, h26⟩
theorem z_I7 {xR xU xI xW xM : St} (h : Rel xR xU xI xW xM) (f : Nat → Int32) : Rel xR xU (sR xI 7 f) xW (sR xM 23 f) := by
  obtain ⟨h0, h1, h2, h3, h4, h5, h6, h7, h8, h9, h10, h11, h12, h13, h14, h15, h16, h17, h18, h19, h20, h21, h22, h23, h24, h25, h26⟩ := h
  exact ⟨h0, h1, h2, h3, h4, h5, h6, h7, h8, h9, h10, h11, h12, h13, h14, h15, h16, h17, rfl, h19, h20, h21, h22, h23, h24, h25, h26⟩
theorem s_I8 {xR xU xI xW xM : St} (h : Rel xR xU xI xW xM) (i : Nat) (v : Int32) : Rel xR xU (sA xI 8 i v) xW (sA xM 24 i v) := by
  obtain ⟨h0, h1, h2, h3, h4, h5, h6, h7, h8, h9, h10, h11, h12, h13, h14, h15, h16, h17, h18, h19, h20, h21, h22, h23, h24, h25, h26⟩ := h
  exact ⟨h0, h1, h2, h3, h4, h5, h6, h7, h8, h9, h10, h11, h12, h13, h14, h15, h16, h17, h18, (show upd (xM.1 24) i v = upd (xI.1 8) i v by rw [h19]), h20, h21, h22, h23, h24, h25, h26⟩
theorem z_I8 {xR xU xI xW xM : St} (h : Rel xR xU xI xW xM) (f : Nat → Int32) : Rel xR xU (sR xI 8 f) xW (sR xM 24 f) := by
  obtain ⟨h0, h1, h2, h3, h4, h5, h6, h7, h8, h9, h10, h11, h12, h13, h14, h15, h16, h17, h18, h19, h20, h21, h22, h23, h24, h25, h26⟩ := h
  exact ⟨h0, h1, h2, h3, h4, h5, h6, h7, h8, h9, h10, h11, h12, h13, h14, h15, h16, h17, h18, rfl, h20, h21, h22, h23, h24, h25, h26⟩
theorem s_W0 {xR xU xI xW xM : St} (h : Rel xR xU xI xW xM) (i : Nat) (v : Int32) : Rel xR xU xI (sA xW 0 i v) (sA xM 26 i v) := by
  obtain ⟨h0, h1, h2, h3, h4, h5, h6, h7, h8, h9, h10, h11, h12, h13, h14, h15, h16, h17, h18, h19, h20, h21, h22, h23, h24, h25, h26⟩ := h
  exact ⟨h0, h1, h2, h3, h4, h5, h6, h7, h8, h9, h10, h11, h12, h13, h14, h15, h16, h17, h18, h19, (show upd (xM.1 26) i v = upd (xW.1 0) i v by rw [h20]), h21, h22, h23, h24, h25, h26⟩
theorem z_W0 {xR xU xI xW xM : St} (h : Rel xR xU xI xW xM) (f : Nat → Int32) : Rel xR xU xI (sR xW 0 f) (sR xM 26 f) := by
  obtain ⟨h0, h1, h2, h3, h4, h5, h6, h7, h8, h9, h10, h11, h12, h13, h14, h15, h16, h17, h18, h19, h20, h21, h22, h23, h24, h25, h26⟩ := h
  exact ⟨h0, h1, h2, h3, h4, h5, h6, h7, h8, h9, h10, h11, h12, h13, h14, h15, h16, h17, h18, h19, rfl, h21, h22, h23, h24, h25, h26⟩
theorem s_R4 {xR xU xI xW xM : St} (h : Rel xR xU xI xW xM) (v : Int32) : Rel (sF xR 4 v) xU xI xW (sF xM 1 v) := by
  obtain ⟨h0, h1, h2, h3, h4, h5, h6, h7, h8, h9, h10, h11, h12, h13, h14, h15, h16, h17, h18, h19, h20, h21, h22, h23, h24, h25, h26⟩ := h
  exact ⟨h0, h1, h2, h3, h4, h5, h6, h7, h8, h9, h10, h11, h12, h13, h14, h15, h16, h17, h18, h19, h20, rfl, h22, h23, h24, h25, h26⟩
theorem s_R5 {xR xU xI xW xM : St} (h : Rel xR xU xI xW xM) (v : Int32) : Rel (sF xR 5 v) xU xI xW (sF xM 2 v) := by
  obtain ⟨h0, h1, h2, h3, h4, h5, h6, h7, h8, h9, h10, h11, h12, h13, h14, h15, h16, h17, h18, h19, h20, h21, h22, h23, h24, h25, h26⟩ := h
  exact ⟨h0, h1, h2, h3, h4, h5, h6, h7, h8, h9, h10, h11, h12, h13, h14, h15, h16, h17, h18, h19, h20, h21, rfl, h23, h24, h25, h26⟩
theorem s_U10 {xR xU xI xW xM : St} (h : Rel xR xU xI xW xM) (v : Int32) : Rel xR (sF xU 10 v) xI xW (sF xM 3 v) := by
  obtain ⟨h0, h1, h2, h3, h4, h5, h6, h7, h8, h9, h10, h11, h12, h13, h14, h15, h16, h17, h18, h19, h20, h21, h22, h23, h24, h25, h26⟩ := h
  exact ⟨h0, h1, h2, h3, h4, h5, h6, h7, h8, h9, h10, h11, h12, h13, h14, h15, h16, h17, h18, h19, h20, h21, h22, rfl, h24, h25, h26⟩
theorem s_I9 {xR xU xI xW xM : St} (h : Rel xR xU xI xW xM) (v : Int32) : Rel xR xU (sF xI 9 v) xW (sF xM 15 v) := by
  obtain ⟨h0, h1, h2, h3, h4, h5, h6, h7, h8, h9, h10, h11, h12, h13, h14, h15, h16, h17, h18, h19, h20, h21, h22, h23, h24, h25, h26⟩ := h
  exact ⟨h0, h1, h2, h3, h4, h5, h6, h7, h8, h9, h10, h11, h12, h13, h14, h15, h16, h17, h18, h19, h20, h21, h22, h23, rfl, h25, h26⟩
theorem s_W1 {xR xU xI xW xM : St} (h : Rel xR xU xI xW xM) (v : Int32) : Rel xR xU xI (sF xW 1 v) (sF xM 25 v) := by
  obtain ⟨h0, h1, h2, h3, h4, h5, h6, h7, h8, h9, h10, h11, h12, h13, h14, h15, h16, h17, h18, h19, h20, h21, h22, h23, h24, h25, h26⟩ := h
  exact ⟨h0, h1, h2, h3, h4, h5, h6, h7, h8, h9, h10, h11, h12, h13, h14, h15, h16, h17, h18, h19, h20, h21, h22, h23, h24, rfl, h26⟩
theorem s_R0 {xR xU xI xW xM : St} (h : Rel xR xU xI xW xM) (v : Int32) : Rel (sF xR 0 v) xU xI xW (sF xM 0 v) := by
  obtain ⟨h0, h1, h2, h3, h4, h5, h6, h7, h8, h9, h10, h11, h12, h13, h14, h15, h16, h17, h18, h19, h20, h21, h22, h23, h24, h25, h26⟩ := h
  exact ⟨h0, h1, h2, h3, h4, h5, h6, h7, h8, h9, h10, h11, h12, h13, h14, h15, h16, h17, h18, h19, h20, h21, h22, h23, h24, h25, rfl⟩
