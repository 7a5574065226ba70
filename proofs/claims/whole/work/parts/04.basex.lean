/-! methods that may throw -/
def xBX {S : Type} (D : va_G) (cl : List vw_C) (A : Nat → Prop) (postX : String → S → Prop) (w1 : S → va_W) : String → S → State → Prop := fun E u t => postX E u ∧ va_P D cl (w1 u) t.heap ∧ va_D A (w1 u)
section XX
variable {p : Program} {l : Launch} {e : Env} {R : Room} {s : State} {m : MethodId} {args : Array Value} {below : List Frame} {meth : Method} {c : Code} {H : Heap} {locs : List Loc} {cells slots : Nat} {Q : State → Prop}
variable {pc : Nat} {ls : Array Slot} {rest st0 : List Value} {a : Array Value} {A0 : Nat → Prop} {H0 : Heap} {mc ms : Nat} {D : va_G} {cl : List vw_C} {tys : List (ClassId × FieldType)}
/-- behind a call that answers nothing, or throws -/
theorem x_cxv {S SX : Type} {post : S → Prop} {postX : String → SX → Prop} {w wc : va_W} {w1 w2 : S → va_W} {v1 v2 : SX → va_W} (isC isR isF : List Nat)
    (hr : vx_Run p l e R s m args below meth c H locs cells slots mc ms (F0 m pc ls st0) rest (va_Qv post (xB D cl tys (va_A wc H.size) w1) (va_A wc H.size) a) (vx_X (fun _ => True) (xBX D cl (va_A wc H.size) postX v1) (va_A wc H.size)) (va_A wc H.size))
    (hP : va_P D cl w H) (hD : va_D A0 w) (hS : va_S A0 H0 H locs) (hA : ∀ q, H0.size ≤ q → A0 q)
    (hC : isC.map (fun i => w[i]?) = wc.map some) (hR : isR.map (fun i => w[i]?) = (isR.filterMap (fun i => w[i]?)).map some) (hn : va_nd isR = true) (hdis : ∀ i ∈ isR, i ∉ isC)
    (hF : ∀ u, isF.map (fun i => (isR.filterMap (fun i => w[i]?) ++ w1 u)[i]?) = (w2 u).map some) (hG : ∀ u, isF.map (fun i => (isR.filterMap (fun i => w[i]?) ++ v1 u)[i]?) = (v2 u).map some) (hFn : va_nd isF = true)
    (kx : ∀ (E : String) (u : SX) (ce : Cell) (q9 : Addr) (H1 : Heap) (locs1 : List Loc), postX E u → va_P D cl (v2 u) H1 → va_D A0 (v2 u) → va_S A0 H0 H1 locs1 → H1[q9]? = some ce → ce.vm = .none → s.vm.findClass E = some ce.cls → vx_W p l e R s m args below meth c H1 locs1 (cells + mc) (slots + ms) Q (F0 m pc ls rest) q9)
    (kk : ∀ (u : S) (H1 : Heap) (locs1 : List Loc), post u → va_P D cl (w2 u) H1 → va_D A0 (w2 u) → va_S A0 H0 H1 locs1 → W p l e R s m args below meth c H1 locs1 (cells + mc) (slots + ms) Q (F0 m (pc + 3) ls rest)) :
    W p l e R s m args below meth c H locs cells slots Q (F0 m pc ls st0) := by
  have hFc := va_free (wc := wc) hD hS hA isC hC
  refine vx_callv hr hS (fun q _ h => hFc q h) hFc (fun q _ h => hFc q h) (fun E ce q9 u t H1 locs1 ht hvm _ hB hz1 hk1 hS1 h1 h2 h3 => ?_) (fun u t H1 locs1 ht hvm hw hB hz1 hk1 hS1 => ?_)
  · obtain ⟨hpx, hP1, hD1⟩ := hB
    rw [ht] at hP1
    obtain ⟨hP2, hD2⟩ := va_join (wr := isR.filterMap (fun i => w[i]?)) (w1 := v1 u) hP hD isC isR hC hR hn hdis hk1 hFc hP1 hD1
    exact kx E u ce q9 H1 locs1 hpx (hP2.sub isF (x_fm (hG u))) (hD2.sub isF hFn (hG u)) hS1 h1 h2 h3
  · obtain ⟨hP1, -, hD1⟩ := hB
    rw [ht] at hP1
    obtain ⟨hP2, hD2⟩ := va_join (wr := isR.filterMap (fun i => w[i]?)) (w1 := w1 u) hP hD isC isR hC hR hn hdis hk1 hFc hP1 hD1
    exact kk u H1 locs1 hw (hP2.sub isF (x_fm (hF u))) (hD2.sub isF hFn (hF u)) hS1
/-- behind a call that answers an int, or throws -/
theorem x_cxi {S SX : Type} {post : Int32 → S → Prop} {postX : String → SX → Prop} {w wc : va_W} {w1 w2 : S → va_W} {v1 v2 : SX → va_W} (isC isR isF : List Nat)
    (hr : vx_Run p l e R s m args below meth c H locs cells slots mc ms (F0 m pc ls st0) rest (va_Qi post (xB D cl tys (va_A wc H.size) w1) (va_A wc H.size) a) (vx_X (fun _ => True) (xBX D cl (va_A wc H.size) postX v1) (va_A wc H.size)) (va_A wc H.size))
    (hP : va_P D cl w H) (hD : va_D A0 w) (hS : va_S A0 H0 H locs) (hA : ∀ q, H0.size ≤ q → A0 q)
    (hC : isC.map (fun i => w[i]?) = wc.map some) (hR : isR.map (fun i => w[i]?) = (isR.filterMap (fun i => w[i]?)).map some) (hn : va_nd isR = true) (hdis : ∀ i ∈ isR, i ∉ isC)
    (hF : ∀ u, isF.map (fun i => (isR.filterMap (fun i => w[i]?) ++ w1 u)[i]?) = (w2 u).map some) (hG : ∀ u, isF.map (fun i => (isR.filterMap (fun i => w[i]?) ++ v1 u)[i]?) = (v2 u).map some) (hFn : va_nd isF = true)
    (kx : ∀ (E : String) (u : SX) (ce : Cell) (q9 : Addr) (H1 : Heap) (locs1 : List Loc), postX E u → va_P D cl (v2 u) H1 → va_D A0 (v2 u) → va_S A0 H0 H1 locs1 → H1[q9]? = some ce → ce.vm = .none → s.vm.findClass E = some ce.cls → vx_W p l e R s m args below meth c H1 locs1 (cells + mc) (slots + ms) Q (F0 m pc ls rest) q9)
    (kk : ∀ (r : Int32) (u : S) (H1 : Heap) (locs1 : List Loc), post r u → va_P D cl (w2 u) H1 → va_D A0 (w2 u) → va_S A0 H0 H1 locs1 → W p l e R s m args below meth c H1 locs1 (cells + mc) (slots + ms) Q (F0 m (pc + 3) ls (.int r :: rest))) :
    W p l e R s m args below meth c H locs cells slots Q (F0 m pc ls st0) := by
  have hFc := va_free (wc := wc) hD hS hA isC hC
  refine vx_calli hr hS (fun q _ h => hFc q h) hFc (fun q _ h => hFc q h) (fun E ce q9 u t H1 locs1 ht hvm _ hB hz1 hk1 hS1 h1 h2 h3 => ?_) (fun r u t H1 locs1 ht hvm hw hB hz1 hk1 hS1 => ?_)
  · obtain ⟨hpx, hP1, hD1⟩ := hB
    rw [ht] at hP1
    obtain ⟨hP2, hD2⟩ := va_join (wr := isR.filterMap (fun i => w[i]?)) (w1 := v1 u) hP hD isC isR hC hR hn hdis hk1 hFc hP1 hD1
    exact kx E u ce q9 H1 locs1 hpx (hP2.sub isF (x_fm (hG u))) (hD2.sub isF hFn (hG u)) hS1 h1 h2 h3
  · obtain ⟨hP1, -, hD1⟩ := hB
    rw [ht] at hP1
    obtain ⟨hP2, hD2⟩ := va_join (wr := isR.filterMap (fun i => w[i]?)) (w1 := w1 u) hP hD isC isR hC hR hn hdis hk1 hFc hP1 hD1
    exact kk r u H1 locs1 hw (hP2.sub isF (x_fm (hF u))) (hD2.sub isF hFn (hF u)) hS1
end XX
/-- what a throw needs of the start: the two statics of Throwable, the texts, words that are not kept by themselves -/
def xEx : List String := ["java/lang/IllegalArgumentException", "java/lang/IndexOutOfBoundsException", "java/lang/IllegalStateException", "java/lang/UnsupportedOperationException"]
def xDl : List MethodName := [⟨"java/lang/RuntimeException", "<init>", "(Ljava/lang/String;)V"⟩, ⟨"java/lang/Exception", "<init>", "(Ljava/lang/String;)V"⟩, ⟨"java/lang/Throwable", "<init>", "(Ljava/lang/String;)V"⟩]
def xE (own : String) (tx : List (Nat × String)) (sa : Nat → Nat) (A : Nat → Prop) (H : Heap) (U : State) : Prop := vx_Zq Bundle.tN "UNASSIGNED_STACK" Bundle.steD A U H ∧ vx_Zq Bundle.tN "SUPPRESSED_SENTINEL" Bundle.listD A U H ∧ (∀ q ∈ tx, vk_R own q.1 q.2 (sa q.1) U) ∧ (∀ C ∈ xEx, va_Nw (.castable C C) U) ∧ ∀ x ∈ xDl, va_Nw (.declares x) U
theorem xE.at {own : String} {tx : List (Nat × String)} {sa : Nat → Nat} {A B : Nat → Prop} {H0 H : Heap} {locs : List Loc} {s U : State} (h : xE own tx sa A H0 s) (hS : va_S A H0 H locs) (hAB : ∀ q, B q → A q) (hW : s.WarmedH U.vm) : xE own tx sa B H U :=
  ⟨((h.1.kept hS.2.1).narrow hAB).moved hW.alike, ((h.2.1.kept hS.2.1).narrow hAB).moved hW.alike, fun q hq => (h.2.2.1 q hq).warm hW, fun C hC => va_Nw.warmC hW (h.2.2.2.1 C hC), fun x hx => va_Nw.warmD hW (h.2.2.2.2 x hx)⟩
theorem x_blindX {D : va_G} {cl : List vw_C} {tys : List (ClassId × FieldType)} {wc : va_W} {sz : Nat} {av : List Value} {own : String} {tx : List (Nat × String)} {sa : Nat → Nat} {A : Nat → Prop} : FrameBlind (va_Pc av (fun U => xP D cl tys wc sz U ∧ xE own tx sa A U.heap U)) := fun a U g mk q => by
  obtain ⟨q0, ⟨q1, qP, qK, qD⟩, e1, e2, e3, e4, e5⟩ := q
  exact ⟨q0, ⟨q1, qP, va_K.moved (u := U) (U := U.calling g mk a) (Vm.Alike.refl U.vm) qK, qD⟩, vx_Zq.moved (u := U) (U := U.calling g mk a) (Vm.Alike.refl U.vm) e1, vx_Zq.moved (u := U) (U := U.calling g mk a) (Vm.Alike.refl U.vm) e2, fun q hq => vk_R.same (u := U) (U := U.calling g mk a) rfl (e3 q hq), fun C hC => va_Nw.same (u := U) (U := U.calling g mk a) rfl rfl (e4 C hC), fun x hx => va_Nw.same (u := U) (U := U.calling g mk a) rfl rfl (e5 x hx)⟩
theorem x_preX {D : va_G} {cl : List vw_C} {tys : List (ClassId × FieldType)} {w wc : va_W} {H0 H : Heap} {locs : List Loc} {s U : State} {A : Nat → Prop} {av : List Value} {isC : List Nat} {own : String} {tx : List (Nat × String)} {sa : Nat → Nat} (hK : va_K D cl tys s) (hP : va_P D cl w H) (hD : va_D A w) (hS : va_S A H0 H locs) (hA : ∀ q, H0.size ≤ q → A q) (hE : xE own tx sa A H0 s) (hn : va_nd isC = true) (hC : isC.map (fun i => w[i]?) = wc.map some) (hU : U.heap = H) (hW : s.WarmedH U.vm) : va_Pc av (fun U => xP D cl tys wc H.size U ∧ xE own tx sa (va_A wc H.size) U.heap U) av.toArray U :=
  ⟨rfl, ⟨by rw [hU], by rw [hU]; exact hP.sub isC (x_fm hC), va_K.moved hW.alike hK, (hD.sub isC hn hC).weaken (fun _ _ _ _ => trivial)⟩, by rw [hU]; exact hE.at hS (va_free (wc := wc) hD hS hA isC hC) hW⟩
theorem x_thrX {D : va_G} {cl : List vw_C} {A : Nat → Prop} {H : Heap} {locs : List Loc} {s : State} {S : Type} {postX : String → S → Prop} {v1 : S → va_W} {E : String} {u : S} (hP : va_P D cl (v1 u) H) (hD : va_D A (v1 u)) (hS : va_S A s.heap H locs) (hw : postX E u) : ∀ t : State, s.vm.Alike t.vm → H.size ≤ t.heap.size → (∀ q : Nat, q < H.size → t.heap[q]? = H[q]?) → vx_X (fun _ => True) (xBX D cl A postX v1) A E s t :=
  fun t _ hz hk => ⟨u, trivial, ⟨hw, hP.kept (fun k q hq => hk q.1 (hP k q hq).lt), hD⟩, ⟨Nat.le_trans hS.1 hz, fun q h1 h2 => (hk q (Nat.lt_of_lt_of_le h1 hS.1)).trans (hS.2.1 q h1 h2)⟩⟩
/-- a contract of a method that may throw, out of its body: it answers nothing -/
theorem x_ofXV {l : Launch} {y : MethodName} {ws ws' : List Cond} {rm : Room} {mc ms sz : Nat} {cc : ByteArray} {maxL : Nat} {av : List Value} {D : va_G} {cl : List vw_C} {tys : List (ClassId × FieldType)} {w0 : va_W} {S SX : Type} {post : S → Prop} {postX : String → SX → Prop} {w1 : S → va_W} {v1 : SX → va_W} {own : String} {tx : List (Nat × String)} {sa : Nat → Nat}
    (hy : plainName y.cls = true) (hw : ws = Cond.code y cc maxL none :: ws') (hav : (lg_sl av).length ≤ maxL)
    (body : ∀ (p : Program) (e : Env) (s : State) (m : MethodId) (below : List Frame) (meth : Method) (c : Code) (A : Nat → Prop) (Q : State → Prop), p.tables.exec = Jvm.exec → c.code = cc → c.maxLocals = maxL → (∀ w ∈ ws', w.before av.toArray s = true) → s.vm.findClass y.cls = some m.cls → meth.locks = false → (∀ x ∈ c.exceptionTable.toList, False) → va_K D cl tys s → (∀ q, s.heap.size ≤ q → A q) → va_P D cl w0 s.heap → va_D A w0 → va_S A s.heap s.heap [] → xE own tx sa A s.heap s →
      Q = vx_MQ below (va_Qv post (xB D cl tys A w1) A) (vx_X (fun _ => True) (xBX D cl A postX v1) A) av.toArray s mc ms A →
      (∀ (u : S) (H : Heap) (locs : List Loc) (cells slots pc : Nat) (ls : Array Slot), post u → va_P D cl (w1 u) H → va_D A (w1 u) → va_S A s.heap H locs → cells ≤ mc → slots ≤ ms → decode cc pc = .ok (.return_, 1) → W p l e (headSpec ws rm).room s m av.toArray below meth c H locs cells slots Q (F0 m pc ls [])) →
      (∀ (E : String) (u : SX) (ce : Cell) (q9 : Addr) (H : Heap) (locs : List Loc) (cells slots pc : Nat) (ls : Array Slot) (rest : List Value), postX E u → va_P D cl (v1 u) H → va_D A (v1 u) → va_S A s.heap H locs → H[q9]? = some ce → ce.vm = .none → s.vm.findClass E = some ce.cls → cells ≤ mc → slots ≤ ms → vx_W p l e (headSpec ws rm).room s m av.toArray below meth c H locs cells slots Q (F0 m pc ls rest) q9) →
      ∀ ls : Array Slot, lv_has ls maxL (lv_args 0 av) → W p l e (headSpec ws rm).room s m av.toArray below meth c s.heap [] 0 0 Q (F0 m 0 ls [])) :
    vx_Met l y ws rm (va_Pc av (fun U => xP D cl tys w0 sz U ∧ xE own tx sa (va_A w0 sz) U.heap U)) (va_Qv post (xB D cl tys (va_A w0 sz) w1) (va_A w0 sz)) (vx_X (fun _ => True) (xBX D cl (va_A w0 sz) postX v1) (va_A w0 sz)) mc ms (va_A w0 sz) := by
  refine vx_ofW (cc := cc) (maxL := maxL) (ret := none) hy hw ?_
  intro p e s m args below meth c s₁ B hml hex hv
  obtain ⟨rfl, ⟨hsz, hP, hK, hD0⟩, hE⟩ := hv
  subst hsz
  have hl := lv_entry av (n := maxL) hav
  have hlocks := B.notSynchronized
  have hr := B.returns
  rw [lg_entry_eq]
  exact body p e s m below meth c (va_A w0 s.heap.size) _ B.exec B.bytes hml (fun w h => atoms_spec (ws := ws) B.pre w (by rw [hw]; exact List.mem_cons_of_mem _ h)) (findClass_of_methodNamed B.named) hlocks hex hK (fun q h => Or.inr h) hP hD0.self va_S.rf hE rfl (fun u H locs cells slots pc ls hp hP1 hD1 hS1 hc hs hd => vx_ret (W.widen hc hs (W.vret B.exec B.bytes hr (fun t ht hW => ⟨⟨u, rfl, hp, by rw [ht]; exact hP1, va_K.moved hW.alike hK, hD1⟩, hS1.F ht⟩) hS1.2.2 hd))) (fun E u ce q9 H locs cells slots pc ls rest hpx hP1 hD1 hS1 h1 h2 h3 hc hs => vx_out (fun x hx => (hex x hx).elim) hlocks h1 h2 h3 (fun t ht _ => ⟨u, trivial, ⟨hpx, by rw [ht]; exact hP1, hD1⟩, hS1.F ht⟩) hS1.2.2 hc hs) _ hl
/-- .. it answers an int -/
theorem x_ofXI {l : Launch} {y : MethodName} {ws ws' : List Cond} {rm : Room} {mc ms sz : Nat} {cc : ByteArray} {maxL : Nat} {ty : FieldType} {av : List Value} {D : va_G} {cl : List vw_C} {tys : List (ClassId × FieldType)} {w0 : va_W} {S SX : Type} {post : Int32 → S → Prop} {postX : String → SX → Prop} {w1 : S → va_W} {v1 : SX → va_W} {own : String} {tx : List (Nat × String)} {sa : Nat → Nat}
    (hy : plainName y.cls = true) (hw : ws = Cond.code y cc maxL (some ty) :: ws') (hav : (lg_sl av).length ≤ maxL)
    (body : ∀ (p : Program) (e : Env) (s : State) (m : MethodId) (below : List Frame) (meth : Method) (c : Code) (A : Nat → Prop) (Q : State → Prop), p.tables.exec = Jvm.exec → c.code = cc → c.maxLocals = maxL → (∀ w ∈ ws', w.before av.toArray s = true) → s.vm.findClass y.cls = some m.cls → meth.locks = false → (∀ x ∈ c.exceptionTable.toList, False) → va_K D cl tys s → (∀ q, s.heap.size ≤ q → A q) → va_P D cl w0 s.heap → va_D A w0 → va_S A s.heap s.heap [] → xE own tx sa A s.heap s →
      Q = vx_MQ below (va_Qi post (xB D cl tys A w1) A) (vx_X (fun _ => True) (xBX D cl A postX v1) A) av.toArray s mc ms A →
      (∀ (v : Int32) (u : S) (H : Heap) (locs : List Loc) (cells slots pc : Nat) (ls : Array Slot), narrow ty (.int v) = .int v → post v u → va_P D cl (w1 u) H → va_D A (w1 u) → va_S A s.heap H locs → cells ≤ mc → slots ≤ ms → decode cc pc = .ok (.ireturn, 1) → W p l e (headSpec ws rm).room s m av.toArray below meth c H locs cells slots Q (F0 m pc ls [.int v])) →
      (∀ (E : String) (u : SX) (ce : Cell) (q9 : Addr) (H : Heap) (locs : List Loc) (cells slots pc : Nat) (ls : Array Slot) (rest : List Value), postX E u → va_P D cl (v1 u) H → va_D A (v1 u) → va_S A s.heap H locs → H[q9]? = some ce → ce.vm = .none → s.vm.findClass E = some ce.cls → cells ≤ mc → slots ≤ ms → vx_W p l e (headSpec ws rm).room s m av.toArray below meth c H locs cells slots Q (F0 m pc ls rest) q9) →
      ∀ ls : Array Slot, lv_has ls maxL (lv_args 0 av) → W p l e (headSpec ws rm).room s m av.toArray below meth c s.heap [] 0 0 Q (F0 m 0 ls [])) :
    vx_Met l y ws rm (va_Pc av (fun U => xP D cl tys w0 sz U ∧ xE own tx sa (va_A w0 sz) U.heap U)) (va_Qi post (xB D cl tys (va_A w0 sz) w1) (va_A w0 sz)) (vx_X (fun _ => True) (xBX D cl (va_A w0 sz) postX v1) (va_A w0 sz)) mc ms (va_A w0 sz) := by
  refine vx_ofW (cc := cc) (maxL := maxL) (ret := some ty) hy hw ?_
  intro p e s m args below meth c s₁ B hml hex hv
  obtain ⟨rfl, ⟨hsz, hP, hK, hD0⟩, hE⟩ := hv
  subst hsz
  have hl := lv_entry av (n := maxL) hav
  have hlocks := B.notSynchronized
  have hr := B.returns
  rw [lg_entry_eq]
  exact body p e s m below meth c (va_A w0 s.heap.size) _ B.exec B.bytes hml (fun w h => atoms_spec (ws := ws) B.pre w (by rw [hw]; exact List.mem_cons_of_mem _ h)) (findClass_of_methodNamed B.named) hlocks hex hK (fun q h => Or.inr h) hP hD0.self va_S.rf hE rfl (fun v u H locs cells slots pc ls hn hp hP1 hD1 hS1 hc hs hd => vx_ret (W.widen hc hs (W.zret B.exec B.bytes hr hn (fun t ht hW => ⟨⟨v, u, rfl, hp, by rw [ht]; exact hP1, va_K.moved hW.alike hK, hD1⟩, hS1.F ht⟩) hS1.2.2 hd))) (fun E u ce q9 H locs cells slots pc ls rest hpx hP1 hD1 hS1 h1 h2 h3 hc hs => vx_out (fun x hx => (hex x hx).elim) hlocks h1 h2 h3 (fun t ht _ => ⟨u, trivial, ⟨hpx, by rw [ht]; exact hP1, hD1⟩, hS1.F ht⟩) hS1.2.2 hc hs) _ hl
