/-! base rows of this proof: worlds of rows of ints, calls joined back in one row -/
abbrev St : Type := (Nat → Nat → Int32) × (Nat → Int32)
def sA (x : St) (k i : Nat) (v : Int32) : St := (fun j => bif Nat.beq j k then upd (x.1 k) i v else x.1 j, x.2)
def sR (x : St) (k : Nat) (f : Nat → Int32) : St := (fun j => bif Nat.beq j k then f else x.1 j, x.2)
def sF (x : St) (k : Nat) (v : Int32) : St := (x.1, fun j => bif Nat.beq j k then v else x.2 j)
/-- what a method's world is at its start -/
def xP (D : va_G) (cl : List vw_C) (tys : List (ClassId × FieldType)) (wc : va_W) (sz : Nat) : State → Prop := fun U => U.heap.size = sz ∧ va_P D cl wc U.heap ∧ va_K D cl tys U ∧ va_D (fun _ => True) wc
/-- .. and at its end -/
def xB {S : Type} (D : va_G) (cl : List vw_C) (tys : List (ClassId × FieldType)) (A : Nat → Prop) (w1 : S → va_W) : S → State → Prop := fun u t => va_P D cl (w1 u) t.heap ∧ va_K D cl tys t ∧ va_D A (w1 u)
theorem x_fm {ws wc : va_W} {is : List Nat} (h : is.map (fun i => ws[i]?) = wc.map some) : is.filterMap (fun i => ws[i]?) = wc := by
  have e : is.filterMap (fun i => ws[i]?) = (is.map (fun i => ws[i]?)).filterMap id := by
    rw [List.filterMap_map]; rfl
  rw [e, h, List.filterMap_map]
  show wc.filterMap (fun a => some a) = wc
  exact List.filterMap_some
theorem x_blind {D : va_G} {cl : List vw_C} {tys : List (ClassId × FieldType)} {wc : va_W} {sz : Nat} {av : List Value} : FrameBlind (va_Pc av (xP D cl tys wc sz)) := fun a U g mk q => by
  obtain ⟨q0, q1, qP, qK, qD⟩ := q
  exact ⟨q0, q1, qP, va_K.moved (u := U) (U := U.calling g mk a) (Vm.Alike.refl U.vm) qK, qD⟩
theorem x_pre {D : va_G} {cl : List vw_C} {tys : List (ClassId × FieldType)} {w wc : va_W} {H : Heap} {s U : State} {A : Nat → Prop} {av : List Value} {isC : List Nat} (hK : va_K D cl tys s) (hP : va_P D cl w H) (hD : va_D A w) (hn : va_nd isC = true) (hC : isC.map (fun i => w[i]?) = wc.map some) (hU : U.heap = H) (hW : s.WarmedH U.vm) : va_Pc av (xP D cl tys wc H.size) av.toArray U :=
  ⟨rfl, by rw [hU], by rw [hU]; exact hP.sub isC (x_fm hC), va_K.moved hW.alike hK, (hD.sub isC hn hC).weaken (fun _ _ _ _ => trivial)⟩
section XC
variable {p : Program} {l : Launch} {e : Env} {R : Room} {s : State} {m : MethodId} {args : Array Value} {below : List Frame} {meth : Method} {c : Code} {H : Heap} {locs : List Loc} {cells slots : Nat} {Q : State → Prop}
variable {pc : Nat} {ls : Array Slot} {rest st0 : List Value} {a : Array Value} {A0 : Nat → Prop} {H0 : Heap} {mc ms : Nat} {D : va_G} {cl : List vw_C} {tys : List (ClassId × FieldType)}
/-- behind a call that answers an int -/
theorem x_ci {S : Type} {post : Int32 → S → Prop} {w wc : va_W} {w1 w2 : S → va_W} (isC isR isF : List Nat)
    (hr : va_Run p l e R s m args below meth c H locs cells slots mc ms (F0 m pc ls st0) rest (va_Qi post (xB D cl tys (va_A wc H.size) w1) (va_A wc H.size) a) (va_A wc H.size))
    (hP : va_P D cl w H) (hD : va_D A0 w) (hS : va_S A0 H0 H locs) (hA : ∀ q, H0.size ≤ q → A0 q)
    (hC : isC.map (fun i => w[i]?) = wc.map some) (hR : isR.map (fun i => w[i]?) = (isR.filterMap (fun i => w[i]?)).map some) (hn : va_nd isR = true) (hdis : ∀ i ∈ isR, i ∉ isC)
    (hF : ∀ u, isF.map (fun i => (isR.filterMap (fun i => w[i]?) ++ w1 u)[i]?) = (w2 u).map some) (hFn : va_nd isF = true)
    (kk : ∀ (r : Int32) (u : S) (H1 : Heap) (locs1 : List Loc), post r u → va_P D cl (w2 u) H1 → va_D A0 (w2 u) → va_S A0 H0 H1 locs1 → W p l e R s m args below meth c H1 locs1 (cells + mc) (slots + ms) Q (F0 m (pc + 3) ls (.int r :: rest))) :
    W p l e R s m args below meth c H locs cells slots Q (F0 m pc ls st0) := by
  have hFc := va_free (wc := wc) hD hS hA isC hC
  refine va_calli hr hS (fun q _ h => hFc q h) hFc (fun r u t H1 locs1 ht hvm hw hB hz1 hk1 hS1 => ?_)
  obtain ⟨hP1, -, hD1⟩ := hB
  rw [ht] at hP1
  obtain ⟨hP2, hD2⟩ := va_join (wr := isR.filterMap (fun i => w[i]?)) (w1 := w1 u) hP hD isC isR hC hR hn hdis hk1 hFc hP1 hD1
  exact kk r u H1 locs1 hw (hP2.sub isF (x_fm (hF u))) (hD2.sub isF hFn (hF u)) hS1
/-- .. that answers nothing -/
theorem x_cv {S : Type} {post : S → Prop} {w wc : va_W} {w1 w2 : S → va_W} (isC isR isF : List Nat)
    (hr : va_Run p l e R s m args below meth c H locs cells slots mc ms (F0 m pc ls st0) rest (va_Qv post (xB D cl tys (va_A wc H.size) w1) (va_A wc H.size) a) (va_A wc H.size))
    (hP : va_P D cl w H) (hD : va_D A0 w) (hS : va_S A0 H0 H locs) (hA : ∀ q, H0.size ≤ q → A0 q)
    (hC : isC.map (fun i => w[i]?) = wc.map some) (hR : isR.map (fun i => w[i]?) = (isR.filterMap (fun i => w[i]?)).map some) (hn : va_nd isR = true) (hdis : ∀ i ∈ isR, i ∉ isC)
    (hF : ∀ u, isF.map (fun i => (isR.filterMap (fun i => w[i]?) ++ w1 u)[i]?) = (w2 u).map some) (hFn : va_nd isF = true)
    (kk : ∀ (u : S) (H1 : Heap) (locs1 : List Loc), post u → va_P D cl (w2 u) H1 → va_D A0 (w2 u) → va_S A0 H0 H1 locs1 → W p l e R s m args below meth c H1 locs1 (cells + mc) (slots + ms) Q (F0 m (pc + 3) ls rest)) :
    W p l e R s m args below meth c H locs cells slots Q (F0 m pc ls st0) := by
  have hFc := va_free (wc := wc) hD hS hA isC hC
  refine va_callv hr hS (fun q _ h => hFc q h) hFc (fun u t H1 locs1 ht hvm hw hB hz1 hk1 hS1 => ?_)
  obtain ⟨hP1, -, hD1⟩ := hB
  rw [ht] at hP1
  obtain ⟨hP2, hD2⟩ := va_join (wr := isR.filterMap (fun i => w[i]?)) (w1 := w1 u) hP hD isC isR hC hR hn hdis hk1 hFc hP1 hD1
  exact kk u H1 locs1 hw (hP2.sub isF (x_fm (hF u))) (hD2.sub isF hFn (hF u)) hS1
end XC
/-- a method's contract out of its body: it answers an int (or a boolean) -/
theorem x_ofI {l : Launch} {y : MethodName} {ws ws' : List Cond} {rm : Room} {mc ms sz : Nat} {cc : ByteArray} {maxL : Nat} {ty : FieldType} {av : List Value} {D : va_G} {cl : List vw_C} {tys : List (ClassId × FieldType)} {w0 : va_W} {S : Type} {post : Int32 → S → Prop} {w1 : S → va_W}
    (hy : plainName y.cls = true) (hw : ws = Cond.code y cc maxL (some ty) :: ws') (hav : (lg_sl av).length ≤ maxL)
    (body : ∀ (p : Program) (e : Env) (s : State) (m : MethodId) (below : List Frame) (meth : Method) (c : Code) (A : Nat → Prop) (Q : State → Prop), p.tables.exec = Jvm.exec → c.code = cc → c.maxLocals = maxL → (∀ w ∈ ws', w.before av.toArray s = true) → s.vm.findClass y.cls = some m.cls → va_K D cl tys s → (∀ q, s.heap.size ≤ q → A q) → va_P D cl w0 s.heap → va_D A w0 → va_S A s.heap s.heap [] →
      (∀ (v : Int32) (u : S) (H : Heap) (locs : List Loc) (cells slots pc : Nat) (ls : Array Slot), narrow ty (.int v) = .int v → post v u → va_P D cl (w1 u) H → va_D A (w1 u) → va_S A s.heap H locs → cells ≤ mc → slots ≤ ms → decode cc pc = .ok (.ireturn, 1) → W p l e (headSpec ws rm).room s m av.toArray below meth c H locs cells slots Q (F0 m pc ls [.int v])) →
      ∀ ls : Array Slot, lv_has ls maxL (lv_args 0 av) → W p l e (headSpec ws rm).room s m av.toArray below meth c s.heap [] 0 0 Q (F0 m 0 ls [])) :
    Met l y ws rm (va_Pc av (xP D cl tys w0 sz)) (va_Qi post (xB D cl tys (va_A w0 sz) w1) (va_A w0 sz)) mc ms (va_A w0 sz) := by
  refine Met.ofW (cc := cc) (maxL := maxL) (ret := some ty) hy hw ?_
  intro p e s m args below meth c s₁ B hml hv
  obtain ⟨rfl, hsz, hP, hK, hD0⟩ := hv
  subst hsz
  have hl := lv_entry av (n := maxL) hav
  have hlocks := B.notSynchronized
  have hr := B.returns
  rw [lg_entry_eq]
  exact body p e s m below meth c (va_A w0 s.heap.size) _ B.exec B.bytes hml (fun w h => atoms_spec (ws := ws) B.pre w (by rw [hw]; exact List.mem_cons_of_mem _ h)) (findClass_of_methodNamed B.named) hK (fun q h => Or.inr h) hP hD0.self va_S.rf (fun v u H locs cells slots pc ls hn hp hP1 hD1 hS1 hc hs hd => W.widen hc hs (W.zret B.exec B.bytes hr hn (fun t ht hW => ⟨⟨v, u, rfl, hp, by rw [ht]; exact hP1, va_K.moved hW.alike hK, hD1⟩, hS1.F ht⟩) hS1.2.2 hd)) _ hl
/-- .. it answers nothing -/
theorem x_ofV {l : Launch} {y : MethodName} {ws ws' : List Cond} {rm : Room} {mc ms sz : Nat} {cc : ByteArray} {maxL : Nat} {av : List Value} {D : va_G} {cl : List vw_C} {tys : List (ClassId × FieldType)} {w0 : va_W} {S : Type} {post : S → Prop} {w1 : S → va_W}
    (hy : plainName y.cls = true) (hw : ws = Cond.code y cc maxL none :: ws') (hav : (lg_sl av).length ≤ maxL)
    (body : ∀ (p : Program) (e : Env) (s : State) (m : MethodId) (below : List Frame) (meth : Method) (c : Code) (A : Nat → Prop) (Q : State → Prop), p.tables.exec = Jvm.exec → c.code = cc → c.maxLocals = maxL → (∀ w ∈ ws', w.before av.toArray s = true) → s.vm.findClass y.cls = some m.cls → meth.name = y.name → va_K D cl tys s → (∀ q, s.heap.size ≤ q → A q) → va_P D cl w0 s.heap → va_D A w0 → va_S A s.heap s.heap [] →
      (∀ (u : S) (H : Heap) (locs : List Loc) (cells slots pc : Nat) (ls : Array Slot), post u → va_P D cl (w1 u) H → va_D A (w1 u) → va_S A s.heap H locs → cells ≤ mc → slots ≤ ms → decode cc pc = .ok (.return_, 1) → W p l e (headSpec ws rm).room s m av.toArray below meth c H locs cells slots Q (F0 m pc ls [])) →
      ∀ ls : Array Slot, lv_has ls maxL (lv_args 0 av) → W p l e (headSpec ws rm).room s m av.toArray below meth c s.heap [] 0 0 Q (F0 m 0 ls [])) :
    Met l y ws rm (va_Pc av (xP D cl tys w0 sz)) (va_Qv post (xB D cl tys (va_A w0 sz) w1) (va_A w0 sz)) mc ms (va_A w0 sz) := by
  refine Met.ofW (cc := cc) (maxL := maxL) (ret := none) hy hw ?_
  intro p e s m args below meth c s₁ B hml hv
  obtain ⟨rfl, hsz, hP, hK, hD0⟩ := hv
  subst hsz
  have hl := lv_entry av (n := maxL) hav
  have hlocks := B.notSynchronized
  have hr := B.returns
  have hin : meth.name = y.name := (name_of_methodNamed B.named B.method).1
  rw [lg_entry_eq]
  exact body p e s m below meth c (va_A w0 s.heap.size) _ B.exec B.bytes hml (fun w h => atoms_spec (ws := ws) B.pre w (by rw [hw]; exact List.mem_cons_of_mem _ h)) (findClass_of_methodNamed B.named) hin hK (fun q h => Or.inr h) hP hD0.self va_S.rf (fun u H locs cells slots pc ls hp hP1 hD1 hS1 hc hs hd => W.widen hc hs (W.vret B.exec B.bytes hr (fun t ht hW => ⟨⟨u, rfl, hp, by rw [ht]; exact hP1, va_K.moved hW.alike hK, hD1⟩, hS1.F ht⟩) hS1.2.2 hd)) _ hl
theorem x_same {U : State} {c1 c2 : ClassId} (h1 : va_RA U c1 .int) (h2 : va_RA U c2 .int) : c1 = c2 := Option.some.inj (Eq.trans (Eq.symm h1) h2)
theorem x_sameZ {U : State} {c1 c2 : ClassId} (h1 : va_RA U c1 .boolean) (h2 : va_RA U c2 .boolean) : c1 = c2 := Option.some.inj (Eq.trans (Eq.symm h1) h2)
section XN
variable {p : Program} {l : Launch} {e : Env} {R : Room} {s : State} {m : MethodId} {args : Array Value} {below : List Frame} {meth : Method} {c : Code} {H : Heap} {locs : List Loc} {cells slots : Nat} {Q : State → Prop}
variable {cc : ByteArray} {pc : Nat} {ls : Array Slot} {rest : List Value} {A0 : Nat → Prop} {H0 : Heap} {D : va_G} {cl : List vw_C} {cI cZ cL : ClassId} {w : va_W}
/-- new int[N] -/
theorem x_newI (hx : p.tables.exec = Jvm.exec) (hb : c.code = cc) (harr : (Cond.arrayClass .int).before args s = true) (hK : va_K D cl [(cI, .int), (cZ, .boolean), (cL, .long)] s) (hP : va_P D cl w H) (hD : va_D A0 w) (hS : va_S A0 H0 H locs) (hA : ∀ q, H0.size ≤ q → A0 q)
    {n : Int32} {N : Nat} (hn : ¬ n < 0) (hN : n.toNatClampNeg = N) (hby : N * componentBytes .int ≤ 536870912) (hc : cells + 1 ≤ R.cells) (hs : slots + N ≤ R.slots) (hdg : decode cc pc = .ok (.newarray .int, 2))
    (kk : ∀ (q : Nat) (H1 : Heap), va_P D cl (w ++ [(q, .inl (cI, N, .inl (fun _ => 0)))]) H1 → va_D A0 (w ++ [(q, .inl (cI, N, .inl (fun _ => 0)))]) → va_S A0 H0 H1 locs → W p l e R s m args below meth c H1 locs (cells + 1) (slots + N) Q (F0 m (pc + 2) ls (.ref q :: rest))) :
    W p l e R s m args below meth c H locs cells slots Q (F0 m pc ls (.int n :: rest)) := by
  refine va_newa (atype := .int) (ty := .int) (a0 := (N, .inl (fun _ => 0))) hx hb harr rfl hK hP hD hS hA (fun _ => rfl) hn hN hby hc hs hdg (fun q cA H1 hK1 hP1 hD1 hS1 => ?_)
  have e1 : cA = cI := x_same (hK1.2 3 _ rfl).2 (hK1.2 0 _ rfl).2
  subst e1
  exact kk q H1 hP1 hD1 hS1
/-- new boolean[N] -/
theorem x_newZ (hx : p.tables.exec = Jvm.exec) (hb : c.code = cc) (harr : (Cond.arrayClass .boolean).before args s = true) (hK : va_K D cl [(cI, .int), (cZ, .boolean), (cL, .long)] s) (hP : va_P D cl w H) (hD : va_D A0 w) (hS : va_S A0 H0 H locs) (hA : ∀ q, H0.size ≤ q → A0 q)
    {n : Int32} {N : Nat} (hn : ¬ n < 0) (hN : n.toNatClampNeg = N) (hby : N * componentBytes .boolean ≤ 536870912) (hc : cells + 1 ≤ R.cells) (hs : slots + N ≤ R.slots) (hdg : decode cc pc = .ok (.newarray .boolean, 2))
    (kk : ∀ (q : Nat) (H1 : Heap), va_P D cl (w ++ [(q, .inl (cZ, N, .inl (fun _ => 0)))]) H1 → va_D A0 (w ++ [(q, .inl (cZ, N, .inl (fun _ => 0)))]) → va_S A0 H0 H1 locs → W p l e R s m args below meth c H1 locs (cells + 1) (slots + N) Q (F0 m (pc + 2) ls (.ref q :: rest))) :
    W p l e R s m args below meth c H locs cells slots Q (F0 m pc ls (.int n :: rest)) := by
  refine va_newa (atype := .boolean) (ty := .boolean) (a0 := (N, .inl (fun _ => 0))) hx hb harr rfl hK hP hD hS hA (fun _ => rfl) hn hN hby hc hs hdg (fun q cA H1 hK1 hP1 hD1 hS1 => ?_)
  have e1 : cA = cZ := x_sameZ (hK1.2 3 _ rfl).2 (hK1.2 1 _ rfl).2
  subst e1
  exact kk q H1 hP1 hD1 hS1
end XN
/-! the good words of the tables: every method's words are its own code and these -/
def gG : List Cond := lw_tbl.filter goodWord
theorem x_k {w : Cond} (i : Nat) (h : lw_tbl[i]? = some w) (hg : goodWord w = true) : w ∈ gG := List.mem_filter.mpr ⟨List.mem_of_getElem? h, hg⟩
theorem x_gG : ∀ w ∈ gG, ((w.onTables && w.keeps) = true ∨ ∃ ty, w = .arrayClass ty) := fun w h => good_of_word (List.mem_filter.mp h).2
theorem x_gC {y : MethodName} {b : ByteArray} {n : Nat} {r : Option FieldType} (h5 : Cond.code y b n r ∈ gG) : GoodIn gG (Cond.code y b n r :: gG) := fun w h => by
  rcases List.mem_cons.mp h with rfl | h
  · exact ⟨h5, x_gG _ h5⟩
  · exact ⟨h, x_gG _ h⟩
theorem x_gV {own C : String} {idx n : Nat} {y : MethodName} {b : ByteArray} {r : Option FieldType} (h1 : Cond.methodLink own idx y ∈ gG) (h2 : Cond.instanceMethod y ∈ gG) (h3 : Cond.selects C y y ∈ gG) (h4 : Cond.initialized C ∈ gG) (h5 : Cond.code y b n r ∈ gG) : GoodIn gG (wsV own idx C y (Cond.code y b n r :: gG)) := fun w h => by
  rcases List.mem_append.mp h with h | h
  · simp only [List.mem_cons, List.not_mem_nil, or_false] at h
    rcases h with rfl | rfl | rfl | rfl
    · exact ⟨h1, x_gG _ h1⟩
    · exact ⟨h2, x_gG _ h2⟩
    · exact ⟨h3, x_gG _ h3⟩
    · exact ⟨h4, x_gG _ h4⟩
  · exact x_gC h5 w h
theorem x_gS {own : String} {idx n : Nat} {y : MethodName} {b : ByteArray} {r : Option FieldType} (h1 : Cond.methodLink own idx y ∈ gG) (h2 : Cond.static y ∈ gG) (h4 : Cond.initialized own ∈ gG) (h5 : Cond.code y b n r ∈ gG) : GoodIn gG (wsS own idx y (Cond.code y b n r :: gG)) := fun w h => by
  rcases List.mem_append.mp h with h | h
  · simp only [List.mem_cons, List.not_mem_nil, or_false] at h
    rcases h with rfl | rfl | rfl
    · exact ⟨h1, x_gG _ h1⟩
    · exact ⟨h2, x_gG _ h2⟩
    · exact ⟨h4, x_gG _ h4⟩
  · exact x_gC h5 w h
