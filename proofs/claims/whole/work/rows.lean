section
-- ===== PART A: goes FIRST, ahead of the names: the tables' words, and 'selects' of the private methods out of them =====
/-- a private method of a class that the tables say can be made, by its rows of tables_1 -/
def lw_okq (q : MethodName × Nat) : Prop := (q.1.cls ≠ "java/lang/invoke/MethodHandle" ∧ q.1.cls ≠ "java/lang/invoke/VarHandle") ∧ Cond.instantiable q.1.cls q.2 ∈ tables_1 ∧ Cond.privateMethod q.1 ∈ tables_1 ∧ Cond.instanceMethod q.1 ∈ tables_1
theorem lw_p0 : lw_okq (⟨"java/lang/Throwable", "fillInStackTrace", "(I)Ljava/lang/Throwable;"⟩, 6) := ⟨⟨by decide +kernel, by decide +kernel⟩, List.mem_of_getElem? (i := 204) (by decide +kernel), List.mem_of_getElem? (i := 202) (by decide +kernel), List.mem_of_getElem? (i := 203) (by decide +kernel)⟩
theorem lw_p1 : lw_okq (⟨"ReleaseRows", "settle", "()I"⟩, 6) := ⟨⟨by decide +kernel, by decide +kernel⟩, List.mem_of_getElem? (i := 15) (by decide +kernel), List.mem_of_getElem? (i := 265) (by decide +kernel), List.mem_of_getElem? (i := 266) (by decide +kernel)⟩
theorem lw_p2 : lw_okq (⟨"ReleaseRows$UnitRows", "canRefill", "(I[I)Z"⟩, 11) := ⟨⟨by decide +kernel, by decide +kernel⟩, List.mem_of_getElem? (i := 23) (by decide +kernel), List.mem_of_getElem? (i := 277) (by decide +kernel), List.mem_of_getElem? (i := 278) (by decide +kernel)⟩
theorem lw_p3 : lw_okq (⟨"ReleaseRows$UnitRows", "refill", "(I[I)V"⟩, 11) := ⟨⟨by decide +kernel, by decide +kernel⟩, List.mem_of_getElem? (i := 23) (by decide +kernel), List.mem_of_getElem? (i := 281) (by decide +kernel), List.mem_of_getElem? (i := 282) (by decide +kernel)⟩
theorem lw_p4 : lw_okq (⟨"ReleaseRows", "giveUnitsToCalls", "()V"⟩, 6) := ⟨⟨by decide +kernel, by decide +kernel⟩, List.mem_of_getElem? (i := 15) (by decide +kernel), List.mem_of_getElem? (i := 289) (by decide +kernel), List.mem_of_getElem? (i := 290) (by decide +kernel)⟩
theorem lw_p5 : lw_okq (⟨"ReleaseRows", "bring", "(II)V"⟩, 6) := ⟨⟨by decide +kernel, by decide +kernel⟩, List.mem_of_getElem? (i := 15) (by decide +kernel), List.mem_of_getElem? (i := 304) (by decide +kernel), List.mem_of_getElem? (i := 305) (by decide +kernel)⟩
theorem lw_p6 : lw_okq (⟨"ReleaseRows", "closeIncidents", "()I"⟩, 6) := ⟨⟨by decide +kernel, by decide +kernel⟩, List.mem_of_getElem? (i := 15) (by decide +kernel), List.mem_of_getElem? (i := 312) (by decide +kernel), List.mem_of_getElem? (i := 313) (by decide +kernel)⟩
theorem lw_p7 : lw_okq (⟨"ReleaseRows", "isPast", "(I)Z"⟩, 6) := ⟨⟨by decide +kernel, by decide +kernel⟩, List.mem_of_getElem? (i := 15) (by decide +kernel), List.mem_of_getElem? (i := 382) (by decide +kernel), List.mem_of_getElem? (i := 383) (by decide +kernel)⟩
theorem lw_p8 : lw_okq (⟨"ReleaseRows", "nextChange", "(I)I"⟩, 6) := ⟨⟨by decide +kernel, by decide +kernel⟩, List.mem_of_getElem? (i := 15) (by decide +kernel), List.mem_of_getElem? (i := 502) (by decide +kernel), List.mem_of_getElem? (i := 503) (by decide +kernel)⟩
theorem lw_p9 : lw_okq (⟨"ReleaseRows", "earlierAhead", "(II)I"⟩, 6) := ⟨⟨by decide +kernel, by decide +kernel⟩, List.mem_of_getElem? (i := 15) (by decide +kernel), List.mem_of_getElem? (i := 507) (by decide +kernel), List.mem_of_getElem? (i := 508) (by decide +kernel)⟩
theorem lw_p10 : lw_okq (⟨"ReleaseRowsModel", "throwing", "(ZZZZ)Z"⟩, 27) := ⟨⟨by decide +kernel, by decide +kernel⟩, List.mem_of_getElem? (i := 546) (by decide +kernel), List.mem_of_getElem? (i := 646) (by decide +kernel), List.mem_of_getElem? (i := 647) (by decide +kernel)⟩
theorem lw_p11 : lw_okq (⟨"ReleaseRowsModel", "settle", "()I"⟩, 27) := ⟨⟨by decide +kernel, by decide +kernel⟩, List.mem_of_getElem? (i := 546) (by decide +kernel), List.mem_of_getElem? (i := 650) (by decide +kernel), List.mem_of_getElem? (i := 651) (by decide +kernel)⟩
theorem lw_p12 : lw_okq (⟨"ReleaseRowsModel", "goesOn", "(I)Z"⟩, 27) := ⟨⟨by decide +kernel, by decide +kernel⟩, List.mem_of_getElem? (i := 546) (by decide +kernel), List.mem_of_getElem? (i := 654) (by decide +kernel), List.mem_of_getElem? (i := 655) (by decide +kernel)⟩
theorem lw_p13 : lw_okq (⟨"ReleaseRowsModel", "become", "(III)V"⟩, 27) := ⟨⟨by decide +kernel, by decide +kernel⟩, List.mem_of_getElem? (i := 546) (by decide +kernel), List.mem_of_getElem? (i := 658) (by decide +kernel), List.mem_of_getElem? (i := 659) (by decide +kernel)⟩
theorem lw_p14 : lw_okq (⟨"ReleaseRowsModel", "hasStock", "(I)Z"⟩, 27) := ⟨⟨by decide +kernel, by decide +kernel⟩, List.mem_of_getElem? (i := 546) (by decide +kernel), List.mem_of_getElem? (i := 662) (by decide +kernel), List.mem_of_getElem? (i := 663) (by decide +kernel)⟩
theorem lw_p15 : lw_okq (⟨"ReleaseRowsModel", "serves", "()Z"⟩, 27) := ⟨⟨by decide +kernel, by decide +kernel⟩, List.mem_of_getElem? (i := 546) (by decide +kernel), List.mem_of_getElem? (i := 666) (by decide +kernel), List.mem_of_getElem? (i := 667) (by decide +kernel)⟩
def lw_privs_1 : List (MethodName × Nat) := [(⟨"java/lang/Throwable", "fillInStackTrace", "(I)Ljava/lang/Throwable;"⟩, 6), (⟨"ReleaseRows", "settle", "()I"⟩, 6), (⟨"ReleaseRows$UnitRows", "canRefill", "(I[I)Z"⟩, 11), (⟨"ReleaseRows$UnitRows", "refill", "(I[I)V"⟩, 11), (⟨"ReleaseRows", "giveUnitsToCalls", "()V"⟩, 6), (⟨"ReleaseRows", "bring", "(II)V"⟩, 6), (⟨"ReleaseRows", "closeIncidents", "()I"⟩, 6), (⟨"ReleaseRows", "isPast", "(I)Z"⟩, 6), (⟨"ReleaseRows", "nextChange", "(I)I"⟩, 6), (⟨"ReleaseRows", "earlierAhead", "(II)I"⟩, 6), (⟨"ReleaseRowsModel", "throwing", "(ZZZZ)Z"⟩, 27), (⟨"ReleaseRowsModel", "settle", "()I"⟩, 27), (⟨"ReleaseRowsModel", "goesOn", "(I)Z"⟩, 27), (⟨"ReleaseRowsModel", "become", "(III)V"⟩, 27), (⟨"ReleaseRowsModel", "hasStock", "(I)Z"⟩, 27), (⟨"ReleaseRowsModel", "serves", "()Z"⟩, 27)]
theorem lw_r1 : ∀ q ∈ lw_privs_1, lw_okq q := List.forall_mem_cons.mpr ⟨lw_p0, List.forall_mem_cons.mpr ⟨lw_p1, List.forall_mem_cons.mpr ⟨lw_p2, List.forall_mem_cons.mpr ⟨lw_p3, List.forall_mem_cons.mpr ⟨lw_p4, List.forall_mem_cons.mpr ⟨lw_p5, List.forall_mem_cons.mpr ⟨lw_p6, List.forall_mem_cons.mpr ⟨lw_p7, List.forall_mem_cons.mpr ⟨lw_p8, List.forall_mem_cons.mpr ⟨lw_p9, List.forall_mem_cons.mpr ⟨lw_p10, List.forall_mem_cons.mpr ⟨lw_p11, List.forall_mem_cons.mpr ⟨lw_p12, List.forall_mem_cons.mpr ⟨lw_p13, List.forall_mem_cons.mpr ⟨lw_p14, List.forall_mem_cons.mpr ⟨lw_p15, fun _ h => absurd h List.not_mem_nil⟩⟩⟩⟩⟩⟩⟩⟩⟩⟩⟩⟩⟩⟩⟩⟩
theorem lw_p16 : lw_okq (⟨"ReleaseRowsModel", "nearest", "()I"⟩, 27) := ⟨⟨by decide +kernel, by decide +kernel⟩, List.mem_of_getElem? (i := 546) (by decide +kernel), List.mem_of_getElem? (i := 670) (by decide +kernel), List.mem_of_getElem? (i := 671) (by decide +kernel)⟩
theorem lw_p17 : lw_okq (⟨"ReleaseRowsModel", "put", "(II)V"⟩, 27) := ⟨⟨by decide +kernel, by decide +kernel⟩, List.mem_of_getElem? (i := 546) (by decide +kernel), List.mem_of_getElem? (i := 674) (by decide +kernel), List.mem_of_getElem? (i := 675) (by decide +kernel)⟩
theorem lw_p18 : lw_okq (⟨"ReleaseRowsModel", "ends", "(I)Z"⟩, 27) := ⟨⟨by decide +kernel, by decide +kernel⟩, List.mem_of_getElem? (i := 546) (by decide +kernel), List.mem_of_getElem? (i := 678) (by decide +kernel), List.mem_of_getElem? (i := 679) (by decide +kernel)⟩
theorem lw_p19 : lw_okq (⟨"ReleaseRowsModel", "there", "(I)I"⟩, 27) := ⟨⟨by decide +kernel, by decide +kernel⟩, List.mem_of_getElem? (i := 546) (by decide +kernel), List.mem_of_getElem? (i := 682) (by decide +kernel), List.mem_of_getElem? (i := 683) (by decide +kernel)⟩
theorem lw_p20 : lw_okq (⟨"ReleaseRowsModel", "waitingFor", "(I)I"⟩, 27) := ⟨⟨by decide +kernel, by decide +kernel⟩, List.mem_of_getElem? (i := 546) (by decide +kernel), List.mem_of_getElem? (i := 686) (by decide +kernel), List.mem_of_getElem? (i := 687) (by decide +kernel)⟩
theorem lw_p21 : lw_okq (⟨"ReleaseRowsModel", "isUnit", "(I)Z"⟩, 27) := ⟨⟨by decide +kernel, by decide +kernel⟩, List.mem_of_getElem? (i := 546) (by decide +kernel), List.mem_of_getElem? (i := 694) (by decide +kernel), List.mem_of_getElem? (i := 695) (by decide +kernel)⟩
theorem lw_p22 : lw_okq (⟨"ReleaseRowsModel", "found", "(IZ)I"⟩, 27) := ⟨⟨by decide +kernel, by decide +kernel⟩, List.mem_of_getElem? (i := 546) (by decide +kernel), List.mem_of_getElem? (i := 712) (by decide +kernel), List.mem_of_getElem? (i := 713) (by decide +kernel)⟩
theorem lw_p23 : lw_okq (⟨"ReleaseRowsModel", "isIncident", "(I)Z"⟩, 27) := ⟨⟨by decide +kernel, by decide +kernel⟩, List.mem_of_getElem? (i := 546) (by decide +kernel), List.mem_of_getElem? (i := 720) (by decide +kernel), List.mem_of_getElem? (i := 721) (by decide +kernel)⟩
theorem lw_p24 : lw_okq (⟨"ReleaseRowsModel", "isShut", "(I)Z"⟩, 27) := ⟨⟨by decide +kernel, by decide +kernel⟩, List.mem_of_getElem? (i := 546) (by decide +kernel), List.mem_of_getElem? (i := 728) (by decide +kernel), List.mem_of_getElem? (i := 729) (by decide +kernel)⟩
def lw_privs_2 : List (MethodName × Nat) := [(⟨"ReleaseRowsModel", "nearest", "()I"⟩, 27), (⟨"ReleaseRowsModel", "put", "(II)V"⟩, 27), (⟨"ReleaseRowsModel", "ends", "(I)Z"⟩, 27), (⟨"ReleaseRowsModel", "there", "(I)I"⟩, 27), (⟨"ReleaseRowsModel", "waitingFor", "(I)I"⟩, 27), (⟨"ReleaseRowsModel", "isUnit", "(I)Z"⟩, 27), (⟨"ReleaseRowsModel", "found", "(IZ)I"⟩, 27), (⟨"ReleaseRowsModel", "isIncident", "(I)Z"⟩, 27), (⟨"ReleaseRowsModel", "isShut", "(I)Z"⟩, 27)]
theorem lw_r2 : ∀ q ∈ lw_privs_2, lw_okq q := List.forall_mem_cons.mpr ⟨lw_p16, List.forall_mem_cons.mpr ⟨lw_p17, List.forall_mem_cons.mpr ⟨lw_p18, List.forall_mem_cons.mpr ⟨lw_p19, List.forall_mem_cons.mpr ⟨lw_p20, List.forall_mem_cons.mpr ⟨lw_p21, List.forall_mem_cons.mpr ⟨lw_p22, List.forall_mem_cons.mpr ⟨lw_p23, List.forall_mem_cons.mpr ⟨lw_p24, fun _ h => absurd h List.not_mem_nil⟩⟩⟩⟩⟩⟩⟩⟩⟩
def lw_privs : List (MethodName × Nat) := lw_privs_1 ++ (lw_privs_2)
def lw_tbl : List Cond := k2_sels lw_privs ++ tables_1
theorem lw_privs_ok : ∀ q ∈ lw_privs, lw_okq q := by
  show ∀ q ∈ lw_privs_1 ++ (lw_privs_2), lw_okq q
  exact List.forall_mem_append.mpr ⟨lw_r1, lw_r2⟩
end
section
/-! ===== BEGIN words of one list among another's, by their places ===== -/
theorem goodIn_r {big : List Cond} (ws : List Cond) (ps : List Nat) (hp : ws = ps.filterMap (fun i => big[i]?)) (h : ws.all goodWord = true) : GoodIn big ws := by
  intro w hw
  have h1 := List.all_eq_true.mp h w hw
  rw [hp] at hw
  obtain ⟨i, -, hi⟩ := List.mem_filterMap.mp hw
  have hm : w ∈ big := by first | exact List.mem_of_getElem? hi | exact List.getElem?_mem hi
  exact ⟨hm, good_of_word h1⟩
theorem goodIn_app {big a b : List Cond} (ha : GoodIn big a) (hb : GoodIn big b) : GoodIn big (a ++ b) := fun w h => (List.mem_append.mp h).elim (ha w) (hb w)
theorem goodIn_ca {big a b : List Cond} {c : Cond} (ha : GoodIn big (c :: a)) (hb : GoodIn big b) : GoodIn big (c :: (a ++ b)) := fun w h => (List.mem_cons.mp h).elim (fun e => ha w (List.mem_cons.mpr (Or.inl e))) (fun h => (List.mem_append.mp h).elim (fun h => ha w (List.mem_cons.mpr (Or.inr h))) (hb w))
theorem goodIn_sub {big ws : List Cond} (hm : ∀ w ∈ ws, w ∈ big) (h : ws.all goodWord = true) : GoodIn big ws := fun w hw => ⟨hm w hw, good_of_word (List.all_eq_true.mp h w hw)⟩
/-! ===== END ===== -/

/-! ===== BEGIN exceptions that leave a method, and their catching by the caller (launches without stack traces) ===== -/
section VXA
/-! The laws vx_back, vx_callV, vx_callS, vx_callSW, vx_throw0, vx_throwS follow proofs of the library, with one case more: JvmDerived/Free/Laws.lean (Back.of_free), Shelf42/LK1.lean (callV, callS), Shelf/KitTraced.lean (throwNew0V, throwNewS). -/
/-- where a method has thrown q: the class by its name, the cell, what was written, the world -/
def vx_T (XC : String → State → State → Prop) (st : State) (q : Addr) (t : State) (mc ms : Nat) (free : Addr → Prop) : Prop :=
  ∃ (E : String) (ce : Cell) (L : List Loc), XC E st t ∧ t.heap[q]? = some ce ∧ ce.vm = .none ∧ st.vm.findClass E = some ce.cls ∧ st.WarmedH t.vm ∧ st.sameButNew ({ t with vm := st.vm } : State) L mc ms ∧ ∀ z ∈ L, free z.base
def vx_Q (Qc : Array Value → State → Outcome → State → Prop) (XC : String → State → State → Prop) (mc ms : Nat) (free : Addr → Prop) : Array Value → State → Outcome → State → Prop := fun a st o t =>
  (Qc a st o t ∧ ∃ L, FrameEnd st o t L mc ms ∧ ∀ q ∈ L, free q.base) ∨ ∃ q, o = .threw q ∧ vx_T XC st q t mc ms free
/-- a callee that returns or throws -/
def vx_Met (l : Launch) (y : MethodName) (ws : List Cond) (rm : Room) (Pc : Array Value → State → Prop) (Qc : Array Value → State → Outcome → State → Prop) (XC : String → State → State → Prop) (mc ms : Nat) (free : Addr → Prop) : Prop :=
  MetFree l y (headSpec ws rm) Pc (fun _ _ _ _ _ => True) (vx_Q Qc XC mc ms free)
def vx_Post (XC : String → State → State → Prop) (mc ms : Nat) (free : Addr → Prop) : Pt → Array Value → Addr → Pt → Prop := fun A a q B =>
  ∃ (g : JFrame) (mk : MethodId) (t : State) (L : List Loc) (E : String) (ce : Cell), B.U.heap = t.heap ∧ B.U.vm = t.vm ∧ XC E (A.U.calling g mk a) t ∧ t.heap[q]? = some ce ∧ ce.vm = .none ∧ A.U.vm.findClass E = some ce.cls ∧ B.locs = A.locs ++ L ∧ (∀ z ∈ L, free z.base) ∧ B.cells = A.cells + mc ∧ B.slots = A.slots + ms
def vx_Back (l : Launch) (R : Room) (p : Program) (e : Env) (below : List Frame) (s : State) (sargs : Array Value) (y : MethodName) (len W9 : Nat)
    (Pre : Pt → Array Value → Prop) (Post : Pt → Array Value → Option Value → Pt → Prop) (PostX : Pt → Array Value → Addr → Pt → Prop) : Prop :=
  ∀ (m : MethodId) (meth : Method) (c : Code) (A : Pt) (g : JFrame) (ig : Instr) (mk : MethodId) (a : Array Value),
    Stand p l e R s m sargs below meth c A.U A.locs A.cells A.slots → g.method = m → g.locals.size = c.maxLocals → decode c.code g.pc = .ok (ig, len) →
    2 * g.monitorRoom + (g.stack.map fun v => v.category).sum ≤ W9 → A.U.methodNamed? y = some mk → Pre A a →
    (∃ (v : Option Value) (B : Pt), Stand p l e R s m sargs below meth c B.U B.locs B.cells B.slots ∧ Post A a v B ∧
      Steps p.tables e below (doInvoke e (A.U.setTop g) [] mk a).1 (B.U.setTop { g with pc := g.pc + len, stack := v.toList ++ g.stack })) ∨
    (∃ (q : Addr) (B : Pt), Stand p l e R s m sargs below meth c B.U B.locs B.cells B.slots ∧ PostX A a q B ∧
      Steps p.tables e below (doInvoke e (A.U.setTop g) [] mk a).1 ((B.U.setTop g).pushFrame (.throwing q)))
section Payer
variable {l : Launch} {R : Room} {p : Program} {e : Env} {below : List Frame} {s : State} {sargs : Array Value} {y : MethodName} {len W9 : Nat}
theorem vx_back {ws : List Cond} {rm : Room} {Pc : Array Value → State → Prop} {Qc : Array Value → State → Outcome → State → Prop} {XC : String → State → State → Prop} {mc ms : Nat} {free : Addr → Prop} {bytes : ByteArray} {maxL : Nat} {ret : Option FieldType}
    (hM : vx_Met l y ws rm Pc Qc XC mc ms free) (hblind : FrameBlind Pc) (hrc : rm.cells = mc) (hrs : rm.slots = ms)
    (hframes : rm.frames + 1 ≤ R.frames) (hlocals : W9 + (maxL + 11) + rm.locals ≤ R.locals)
    (hws : ∀ w ∈ ws, ∀ a' U, s.WarmedH U.vm → w.before a' U = true) (hcode : Cond.code y bytes maxL ret ∈ ws) (hinit : ∀ a' U, s.WarmedH U.vm → (Cond.initialized y.cls).before a' U = true) :
    vx_Back l R p e below s sargs y len W9 (PreOf R mc ms Pc) (PostOf Qc mc ms free) (vx_Post XC mc ms free) := by
  intro m meth c A g ig mk a X hg hsize hdg hW hn hp
  have h1 : (headSpec ws rm).pre.before a A.U = true := atoms_intro fun w hw => hws w hw _ _ X.warmed
  have h2 : (Cond.code y bytes maxL ret).before a A.U = true := hws _ hcode _ _ X.warmed
  have h3 : (Cond.initialized y.cls).before a A.U = true := hinit _ _ X.warmed
  have h4 : A.cells + (headSpec ws rm).room.cells ≤ R.cells := by rw [show (headSpec ws rm).room.cells = mc from hrc]; exact hp.1
  have h5 : A.slots + (headSpec ws rm).room.slots ≤ R.slots := by rw [show (headSpec ws rm).room.slots = ms from hrs]; exact hp.2.1
  have hPc : Pc a (A.U.calling g mk a) := hblind _ _ _ _ hp.2.2
  obtain ⟨U, Ls, c0, s0⟩ := A
  dsimp only [Pt.U, Pt.locs, Pt.cells, Pt.slots] at h1 h2 h3 h4 h5 X hn hPc ⊢
  obtain ⟨methY, cY, hmY, hcY, -, hlY, -, -, -, -⟩ := Cond.code_spec hn h2
  obtain ⟨kY, hkY, -⟩ := className_of_methodNamed hn
  have hinitY : kY.init = .initialized := Cond.initialized_spec (findClass_of_methodNamed hn) hkY h3
  have h : At U g.method c below := by rw [hg]; exact X.here
  have hlocals9 : W9 + (maxL + 11) + (headSpec ws rm).room.locals ≤ R.locals := hlocals
  have happ : (headSpec ws rm).appliesLoose y e.platform (U.calling g mk a) = true :=
    Spec.appliesLoose_calling (g := g) h hdg hn hkY hinitY
      (X.room_calling (g := g) (R' := (headSpec ws rm).room) hsize hmY hcY hframes (by rw [hlY]; omega) h4 h5) h1
  obtain ⟨mid, hmid⟩ := h.above
  have hfr : (U.setTop g).frames = (.java g :: mid) ++ below := by rw [State.frames_setTop' g h.top, hmid]; rfl
  obtain ⟨o, s₂, hsteps, -, hend, hq⟩ := Steps.callFree hM p X.admits X.cas X.clock (acts := []) hfr happ hPc trivial
  have hq' : vx_Q Qc XC mc ms free a (U.calling g mk a) o s₂ := hq
  rw [State.frames_setTop' g h.top] at hend
  obtain ⟨g₀, hg0⟩ := Option.isSome_iff_exists.mp h.top
  obtain ⟨r, hr⟩ := State.topJava?_eq_some.mp hg0
  have hr' : (({ U with heap := s₂.heap, slotsUsed := s₂.slotsUsed } : State).setVm s₂.vm).frames = .java g₀ :: r := hr
  rcases hq' with ⟨hqc, L, hfe, hL⟩ | ⟨q, rfl, E, ce, L, hx, hce, hcv, hcl, hW₂, hsm, hL⟩
  · obtain ⟨⟨v, rfl⟩, hW₂, e2, q2, q3, q4, q5, q6⟩ := id hfe
    have e3 : s₂ = ({ (U.calling g mk a).setFrames s₂.frames with heap := s₂.heap, slotsUsed := s₂.slotsUsed } : State).setVm s₂.vm := by
      have : s₂ = ({ s₂ with vm := (U.calling g mk a).vm } : State).setVm s₂.vm := rfl
      rw [e2] at this
      exact this
    obtain ⟨c₂, i₂, len₂, hc₂, hd₂, hf₂⟩ := hend
    have hW' : U.WarmedH s₂.vm := hW₂
    have hcc : c₂ = c := by
      have h1 : s₂.code? g.method = U.code? g.method := by
        rw [State.code?_eq, State.code?_eq, hW'.alike.method?]
      exact Option.some.inj (hc₂.symm.trans (h1.trans h.code))
    subst hcc
    have hlen : len₂ = len := by rw [hdg] at hd₂; cases hd₂; rfl
    subst hlen
    have hs₂ : s₂ = (({ U with heap := s₂.heap, slotsUsed := s₂.slotsUsed } : State).setVm s₂.vm).setTop { g with pc := g.pc + len₂, stack := v.toList ++ g.stack } := by
      refine e3.trans ?_
      rw [hf₂, State.calling_eq h.top, State.setFrames_setFrames, State.setTop_of_frames _ hr', hr]
      rfl
    have hsame : U.sameButNew ({ U with heap := s₂.heap, slotsUsed := s₂.slotsUsed } : State) L mc ms := by
      refine ⟨?_, q2, q3, q4, q5, q6⟩
      obtain ⟨t, ht, -⟩ := State.frames_cons hr
      show ({ U with heap := s₂.heap, slotsUsed := s₂.slotsUsed } : State) = { U.setFrames U.frames with heap := s₂.heap, slotsUsed := s₂.slotsUsed }
      rw [State.setFrames_self ht]
    subst hg
    refine Or.inl ⟨v, ⟨(({ U with heap := s₂.heap, slotsUsed := s₂.slotsUsed } : State).setVm s₂.vm), Ls ++ L, c0 + mc, s0 + ms⟩,
      ⟨X.admits, X.cas, X.clock, X.frames, X.room, X.hears, X.method, X.code, (X.here.setHeapUsed s₂.heap s₂.slotsUsed).setVm hW'.alike, X.tail, State.WarmedH.trans X.warmed hW', X.limits, X.bytes, X.same.trans (hsame.setVm s.vm)⟩,
      ⟨g, mk, s₂, L, rfl, rfl, hqc, rfl, hL, rfl, rfl⟩, ?_⟩
    show Steps p.tables e below _ ((({ U with heap := s₂.heap, slotsUsed := s₂.slotsUsed } : State).setVm s₂.vm).setTop { g with pc := g.pc + len₂, stack := v.toList ++ g.stack })
    rw [← hs₂]
    exact hsteps
  · obtain ⟨e2, q2, q3, q4, q5, q6⟩ := id hsm
    have e3 : s₂ = ({ (U.calling g mk a).setFrames s₂.frames with heap := s₂.heap, slotsUsed := s₂.slotsUsed } : State).setVm s₂.vm := by
      have : s₂ = ({ s₂ with vm := (U.calling g mk a).vm } : State).setVm s₂.vm := rfl
      rw [e2] at this
      exact this
    have hf₂ : s₂.frames = .throwing q :: .java g :: U.frames.tail := hend
    have hW' : U.WarmedH s₂.vm := hW₂
    have hs₂ : s₂ = ((({ U with heap := s₂.heap, slotsUsed := s₂.slotsUsed } : State).setVm s₂.vm).setTop g).pushFrame (.throwing q) := by
      refine e3.trans ?_
      rw [hf₂, State.calling_eq h.top, State.setFrames_setFrames, State.pushFrame, State.frames_setTop _ hr', State.setTop_of_frames _ hr', State.setFrames_setFrames, hr]
      rfl
    have hsame : U.sameButNew ({ U with heap := s₂.heap, slotsUsed := s₂.slotsUsed } : State) L mc ms := by
      refine ⟨?_, q2, q3, q4, q5, q6⟩
      obtain ⟨t, ht, -⟩ := State.frames_cons hr
      show ({ U with heap := s₂.heap, slotsUsed := s₂.slotsUsed } : State) = { U.setFrames U.frames with heap := s₂.heap, slotsUsed := s₂.slotsUsed }
      rw [State.setFrames_self ht]
    subst hg
    refine Or.inr ⟨q, ⟨(({ U with heap := s₂.heap, slotsUsed := s₂.slotsUsed } : State).setVm s₂.vm), Ls ++ L, c0 + mc, s0 + ms⟩,
      ⟨X.admits, X.cas, X.clock, X.frames, X.room, X.hears, X.method, X.code, (X.here.setHeapUsed s₂.heap s₂.slotsUsed).setVm hW'.alike, X.tail, State.WarmedH.trans X.warmed hW', X.limits, X.bytes, X.same.trans (hsame.setVm s.vm)⟩,
      ⟨g, mk, s₂, L, E, ce, rfl, rfl, hx, hce, hcv, hcl, rfl, hL, rfl, rfl⟩, ?_⟩
    show Steps p.tables e below _ (((({ U with heap := s₂.heap, slotsUsed := s₂.slotsUsed } : State).setVm s₂.vm).setTop g).pushFrame (.throwing q))
    rw [← hs₂]
    exact hsteps
end Payer
section Calls
variable {p : Program} {l : Launch} {e : Env} {R : Room} {s : State} {m : MethodId} {args : Array Value} {below : List Frame} {meth : Method} {c : Code} {T : State} {locs : List Loc} {cells slots : Nat}
theorem vx_callV (X : Stand p l e R s m args below meth c T locs cells slots) (hexec : p.tables.exec = Jvm.exec) {own C : String} {index : Nat} {y : MethodName} {bytes : ByteArray} {maxL : Nat} {ret : Option FieldType}
    (hown : s.vm.findClass own = some m.cls) (hlink : (Cond.methodLink own index y).before args s = true) (hinst : (Cond.instanceMethod y).before args s = true) (hsel : (Cond.selects C y y).before args s = true)
    (hcode : (Cond.code y bytes maxL ret).before args s = true) (hy : y.cls ≠ "java/lang/invoke/MethodHandle" ∧ y.cls ≠ "java/lang/invoke/VarHandle")
    {W9 : Nat} {Pre : Pt → Array Value → Prop} {Post : Pt → Array Value → Option Value → Pt → Prop} {PostX : Pt → Array Value → Addr → Pt → Prop} (hK : vx_Back l R p e below s args y 3 W9 Pre Post PostX)
    {b : Addr} {cellB : Cell} (hcell : T.heap[b]? = some cellB) (hobj : cellB.vm.isStatics = false) (hcls : s.vm.findClass C = some cellB.cls)
    {g : JFrame} (hg : g.method = m) (hsize : g.locals.size = c.maxLocals) {argsL rest : List Value} (hlen : ∀ sig, parseMethodDescriptor y.desc = some sig → argsL.length = sig.parameters.length)
    (hstack : g.stack = argsL.reverse ++ .ref b :: rest) (hW : 2 * g.monitorRoom + (rest.map fun v => v.category).sum ≤ W9) (hdg : decode c.code g.pc = .ok (.invokevirtual index, 3))
    (hpre : ∀ vm₁, s.WarmedH vm₁ → Pre ⟨T.setVm vm₁, locs, cells, slots⟩ (Value.ref b :: argsL).toArray) :
    (∃ (v : Option Value) (vm₁ : Vm) (B : Pt), s.WarmedH vm₁ ∧ Stand p l e R s m args below meth c B.U B.locs B.cells B.slots ∧ Post ⟨T.setVm vm₁, locs, cells, slots⟩ (Value.ref b :: argsL).toArray v B ∧
      ∀ target, Steps p.tables e below (B.U.setTop { g with pc := g.pc + 3, stack := v.toList ++ rest }) target → Steps p.tables e below (T.setTop g) target) ∨
    (∃ (q : Addr) (vm₁ : Vm) (B : Pt), s.WarmedH vm₁ ∧ Stand p l e R s m args below meth c B.U B.locs B.cells B.slots ∧ PostX ⟨T.setVm vm₁, locs, cells, slots⟩ (Value.ref b :: argsL).toArray q B ∧
      Steps p.tables e below (T.setTop g) ((B.U.setTop { g with stack := rest }).pushFrame (.throwing q))) := by
  obtain ⟨mk, methM, hnamed, hmethM, hstM, habM⟩ := Cond.instanceMethod_spec hinst
  obtain ⟨methM', cM, hmethM', -, -, -, -, -, -, hsigM⟩ := Cond.code_spec hnamed hcode
  cases hmethM.symm.trans hmethM'
  obtain ⟨c2, r2, m2, q1, q2, q3, q4, kP, hkP, hkPi⟩ := Cond.selects_spec hsel
  cases hcls.symm.trans q1
  cases (State.methodFound?_of_named hnamed hy).symm.trans q2
  cases hnamed.symm.trans q3
  have hselP : selectMethod e.platform s.vm cellB.cls mk = .method mk := by rw [Launch.admits_selectMethod X.admits]; exact q4
  obtain ⟨vm₁, X₁, hstep₁⟩ := X.invokevirtual hexec hown hlink hnamed hmethM hstM hkP hkPi hy (a := b) (cell := cellB) hcell
    (fun z h => by rw [h] at hobj; cases hobj) hselP hmethM habM hkP hkPi (g := g) hg (argsL := argsL) (rest := rest) (hlen _ hsigM) hstack hdg
  rcases hK m meth c ⟨T.setVm vm₁, locs, cells, slots⟩ { g with stack := rest } (.invokevirtual index) mk (Value.ref b :: argsL).toArray X₁ hg hsize hdg hW (X₁.named hnamed) (hpre vm₁ X₁.warmed) with ⟨v, B, X', hpost, hsteps⟩ | ⟨q, B, X', hpost, hsteps⟩
  · exact Or.inl ⟨v, vm₁, B, X₁.warmed, X', hpost, fun target h => hstep₁ _ fun acts => by rw [doInvoke_state]; exact hsteps.trans h⟩
  · exact Or.inr ⟨q, vm₁, B, X₁.warmed, X', hpost, hstep₁ _ fun acts => by rw [doInvoke_state]; exact hsteps⟩
theorem vx_callS (X : Stand p l e R s m args below meth c T locs cells slots) (hexec : p.tables.exec = Jvm.exec) {own : String} {index : Nat} {y : MethodName} {bytes : ByteArray} {maxL : Nat} {ret : Option FieldType}
    (hown : s.vm.findClass own = some m.cls) (hlink : (Cond.methodLink own index y).before args s = true) (hstat : (Cond.static y).before args s = true) (hinit : (Cond.initialized y.cls).before args s = true)
    (hcode : (Cond.code y bytes maxL ret).before args s = true) (hy : y.cls ≠ "java/lang/invoke/MethodHandle" ∧ y.cls ≠ "java/lang/invoke/VarHandle")
    {W9 : Nat} {Pre : Pt → Array Value → Prop} {Post : Pt → Array Value → Option Value → Pt → Prop} {PostX : Pt → Array Value → Addr → Pt → Prop} (hK : vx_Back l R p e below s args y 3 W9 Pre Post PostX)
    {g : JFrame} (hg : g.method = m) (hsize : g.locals.size = c.maxLocals) {argsL rest : List Value} (hlen : ∀ sig, parseMethodDescriptor y.desc = some sig → argsL.length = sig.parameters.length)
    (hstack : g.stack = argsL.reverse ++ rest) (hW : 2 * g.monitorRoom + (rest.map fun v => v.category).sum ≤ W9) (hdg : decode c.code g.pc = .ok (.invokestatic index, 3))
    (hpre : ∀ vm₁, s.WarmedH vm₁ → Pre ⟨T.setVm vm₁, locs, cells, slots⟩ argsL.toArray) :
    (∃ (v : Option Value) (vm₁ : Vm) (B : Pt), s.WarmedH vm₁ ∧ Stand p l e R s m args below meth c B.U B.locs B.cells B.slots ∧ Post ⟨T.setVm vm₁, locs, cells, slots⟩ argsL.toArray v B ∧
      ∀ target, Steps p.tables e below (B.U.setTop { g with pc := g.pc + 3, stack := v.toList ++ rest }) target → Steps p.tables e below (T.setTop g) target) ∨
    (∃ (q : Addr) (vm₁ : Vm) (B : Pt), s.WarmedH vm₁ ∧ Stand p l e R s m args below meth c B.U B.locs B.cells B.slots ∧ PostX ⟨T.setVm vm₁, locs, cells, slots⟩ argsL.toArray q B ∧
      Steps p.tables e below (T.setTop g) ((B.U.setTop { g with stack := rest }).pushFrame (.throwing q))) := by
  obtain ⟨mk, hnamed⟩ := Cond.code_named hcode
  obtain ⟨methM, cM, hmethM, -, -, -, -, -, -, hsigM⟩ := Cond.code_spec hnamed hcode
  have hstatic : methM.isStatic = true := Cond.static_spec hnamed hmethM hstat
  obtain ⟨kP, hkP, -⟩ := className_of_methodNamed hnamed
  have hinitP : kP.init = .initialized := Cond.initialized_spec (findClass_of_methodNamed hnamed) hkP hinit
  obtain ⟨vm₁, X₁, hstep₁⟩ := X.invokestatic hexec hown hlink hnamed hmethM hstatic hkP hinitP hy (g := g) hg (argsL := argsL) (rest := rest) (hlen _ hsigM) hstack hdg
  rcases hK m meth c ⟨T.setVm vm₁, locs, cells, slots⟩ { g with stack := rest } (.invokestatic index) mk argsL.toArray X₁ hg hsize hdg hW (X₁.named hnamed) (hpre vm₁ X₁.warmed) with ⟨v, B, X', hpost, hsteps⟩ | ⟨q, B, X', hpost, hsteps⟩
  · exact Or.inl ⟨v, vm₁, B, X₁.warmed, X', hpost, fun target h => hstep₁ _ fun acts => by rw [doInvoke_state]; exact hsteps.trans h⟩
  · exact Or.inr ⟨q, vm₁, B, X₁.warmed, X', hpost, hstep₁ _ fun acts => by rw [doInvoke_state]; exact hsteps⟩
end Calls
theorem vx_cls {s : State} {T : State} {vm₁ : Vm} {E : String} {k : ClassId} (hW : s.WarmedH vm₁) (h : (T.setVm vm₁).vm.findClass E = some k) : s.vm.findClass E = some k := by
  have h1 : vm₁.findClass E = some k := h
  rw [hW.alike.findClass] at h1
  exact h1
/-- the method's frame g, with q thrown over it -/
def vx_W (p : Program) (l : Launch) (e : Env) (R : Room) (s : State) (m : MethodId) (args : Array Value) (below : List Frame) (meth : Method) (c : Code) (H : Heap) (locs : List Loc) (cells slots : Nat) (Q : State → Prop) (g : JFrame) (q : Addr) : Prop :=
  ∀ T : State, T.heap = H → Stand p l e R s m args below meth c T locs cells slots → ∃ t, Steps p.tables e below ((T.setTop g).pushFrame (.throwing q)) t ∧ Q t
def vx_Run (p : Program) (l : Launch) (e : Env) (R : Room) (s : State) (m : MethodId) (args : Array Value) (below : List Frame) (meth : Method) (c : Code) (H : Heap) (locs : List Loc) (cells slots mc ms : Nat) (g : JFrame) (rest : List Value) (Qa : State → Outcome → State → Prop) (XC : String → State → State → Prop) (free : Addr → Prop) : Prop :=
  ∀ T : State, T.heap = H → Stand p l e R s m args below meth c T locs cells slots →
    (∃ (v : Option Value) (st₀ t T' : State) (L : List Loc), st₀.heap = H ∧ Stand p l e R s m args below meth c T' (locs ++ L) (cells + mc) (slots + ms) ∧ (∀ q ∈ L, free q.base) ∧ T'.heap = t.heap ∧ T'.vm = t.vm ∧ Qa st₀ (.returned v) t ∧
      Goes p e below T g T' { g with pc := g.pc + 3, stack := v.toList ++ rest }) ∨
    (∃ (q : Addr) (st₀ t T' : State) (L : List Loc) (E : String) (ce : Cell), st₀.heap = H ∧ Stand p l e R s m args below meth c T' (locs ++ L) (cells + mc) (slots + ms) ∧ (∀ z ∈ L, free z.base) ∧ T'.heap = t.heap ∧ T'.vm = t.vm ∧ XC E st₀ t ∧ t.heap[q]? = some ce ∧ ce.vm = .none ∧ s.vm.findClass E = some ce.cls ∧
      Steps p.tables e below (T.setTop g) ((T'.setTop { g with stack := rest }).pushFrame (.throwing q)))
def vx_X {S : Type} (px : S → Prop) (B : String → S → State → Prop) (A : Nat → Prop) : String → State → State → Prop := fun E st t => ∃ u : S, px u ∧ B E u t ∧ va_F A st t
section Runs
variable {p : Program} {l : Launch} {e : Env} {R : Room} {s : State} {m : MethodId} {args : Array Value} {below : List Frame} {meth : Method} {c : Code} {H : Heap} {locs : List Loc} {cells slots : Nat}
variable {y : MethodName} {bytes cc : ByteArray} {maxL nL mc ms n index : Nat} {ret : Option FieldType} {ws : List Cond} {rm : Room} {Pc : Array Value → State → Prop} {Qc : Array Value → State → Outcome → State → Prop} {XC : String → State → State → Prop} {free : Addr → Prop} {Ts : List Cond} {own C : String} {b : Addr} {As rest : List Value} {g : JFrame}
theorem vx_callBack (cb : CallB R s args own index y bytes maxL ret ws rm mc ms n) (hM : vx_Met l y ws rm Pc Qc XC mc ms free) (hbl : FrameBlind Pc) : vx_Back l R p e below s args y 3 8 (PreOf R mc ms Pc) (PostOf Qc mc ms free) (vx_Post XC mc ms free) := by
  obtain ⟨hrc, hrs, hfr, hlo, hws, hcw, -, hini, -⟩ := cb
  exact vx_back (bytes := bytes) (maxL := maxL) (ret := ret) hM hbl hrc hrs hfr hlo hws hcw (fun a' U hW => word_at hW (Or.inl (by first | rfl | simp [Cond.onTables, Cond.keeps, Cond.steady])) hini)
theorem vx_runV (S : CallFix p m c cc nL s args Ts own) (hM : vx_Met l y ws rm Pc Qc XC mc ms free) (cw : CallW R s args own C index y bytes maxL ret ws rm mc ms n) (hp : PreV s H C b Pc As)
    (hg : g.method = m) (hn : As.length = n) (hsize : g.locals.size = nL) (hstack : g.stack = As.reverse ++ .ref b :: rest) (hW : 2 * g.monitorRoom + (rest.map fun v => v.category).sum ≤ 8) (hdg : decode cc g.pc = .ok (.invokevirtual index, 3)) (hf : cells + mc ≤ R.cells ∧ slots + ms ≤ R.slots) :
    vx_Run p l e R s m args below meth c H locs cells slots mc ms g rest (Qc (Value.ref b :: As).toArray) XC free := by
  have hK : vx_Back l R p e below s args y 3 8 (PreOf R mc ms Pc) (PostOf Qc mc ms free) (vx_Post XC mc ms free) := vx_callBack cw.1 hM hp.1
  obtain ⟨⟨-, -, -, -, -, -, hcode, -, hy, hlen, hl⟩, hin, hse⟩ := cw
  obtain ⟨hx, hb, hml, ho, -⟩ := S
  obtain ⟨-, ⟨cellB, hcB, hoB, hclB⟩, hPc⟩ := hp
  intro T hT X
  rcases vx_callV X hx (C := C) (bytes := bytes) (maxL := maxL) (ret := ret) ho hl hin hse hcode hy hK (by rw [hT]; exact hcB) hoB hclB hg (hsize.trans hml.symm) (argsL := As) (rest := rest) (fun sig h => hn.trans (hlen sig h)) hstack hW (by rw [hb]; exact hdg)
    (fun vm₁ hW₁ => ⟨hf.1, hf.2, hPc (T.setVm vm₁) hT hW₁⟩) with ⟨v, vm₁, ⟨U', l2, c2, s2⟩, hW₁, X', ⟨g', mk, t, L, e1, e2, hq, h1, hL, h2, h3⟩, st⟩ | ⟨q, vm₁, ⟨U', l2, c2, s2⟩, hW₁, X', ⟨g', mk, t, L, E, ce, e1, e2, hq, hce, hcv, hcl, h1, hL, h2, h3⟩, st⟩
  · dsimp only [Pt.U, Pt.locs, Pt.cells, Pt.slots] at X' e1 e2 h1 h2 h3 st
    subst h1; subst h2; subst h3
    exact Or.inl ⟨v, (T.setVm vm₁).calling g' mk (Value.ref b :: As).toArray, t, U', L, hT, X', hL, e1, e2, hq, st⟩
  · dsimp only [Pt.U, Pt.locs, Pt.cells, Pt.slots] at X' e1 e2 h1 h2 h3 st hcl
    subst h1; subst h2; subst h3
    exact Or.inr ⟨q, (T.setVm vm₁).calling g' mk (Value.ref b :: As).toArray, t, U', L, E, ce, hT, X', hL, e1, e2, hq, hce, hcv, vx_cls hW₁ hcl, st⟩
theorem vx_runS (S : CallFix p m c cc nL s args Ts own) (hM : vx_Met l y ws rm Pc Qc XC mc ms free) (cw : CallB R s args own index y bytes maxL ret ws rm mc ms n ∧ (Cond.static y).before args s = true) (hp : PreS s H Pc As)
    (hg : g.method = m) (hn : As.length = n) (hsize : g.locals.size = nL) (hstack : g.stack = As.reverse ++ rest) (hW : 2 * g.monitorRoom + (rest.map fun v => v.category).sum ≤ 8) (hdg : decode cc g.pc = .ok (.invokestatic index, 3)) (hf : cells + mc ≤ R.cells ∧ slots + ms ≤ R.slots) :
    vx_Run p l e R s m args below meth c H locs cells slots mc ms g rest (Qc As.toArray) XC free := by
  have hK : vx_Back l R p e below s args y 3 8 (PreOf R mc ms Pc) (PostOf Qc mc ms free) (vx_Post XC mc ms free) := vx_callBack cw.1 hM hp.1
  obtain ⟨⟨-, -, -, -, -, -, hcode, hini, hy, hlen, hl⟩, hstt⟩ := cw
  obtain ⟨hx, hb, hml, ho, -⟩ := S
  intro T hT X
  rcases vx_callS X hx (bytes := bytes) (maxL := maxL) (ret := ret) ho hl hstt hini hcode hy hK hg (hsize.trans hml.symm) (argsL := As) (rest := rest) (fun sig h => hn.trans (hlen sig h)) hstack hW (by rw [hb]; exact hdg)
    (fun vm₁ hW₁ => ⟨hf.1, hf.2, hp.2 (T.setVm vm₁) hT hW₁⟩) with ⟨v, vm₁, ⟨U', l2, c2, s2⟩, hW₁, X', ⟨g', mk, t, L, e1, e2, hq, h1, hL, h2, h3⟩, st⟩ | ⟨q, vm₁, ⟨U', l2, c2, s2⟩, hW₁, X', ⟨g', mk, t, L, E, ce, e1, e2, hq, hce, hcv, hcl, h1, hL, h2, h3⟩, st⟩
  · dsimp only [Pt.U, Pt.locs, Pt.cells, Pt.slots] at X' e1 e2 h1 h2 h3 st
    subst h1; subst h2; subst h3
    exact Or.inl ⟨v, (T.setVm vm₁).calling g' mk As.toArray, t, U', L, hT, X', hL, e1, e2, hq, st⟩
  · dsimp only [Pt.U, Pt.locs, Pt.cells, Pt.slots] at X' e1 e2 h1 h2 h3 st hcl
    subst h1; subst h2; subst h3
    exact Or.inr ⟨q, (T.setVm vm₁).calling g' mk As.toArray, t, U', L, E, ce, hT, X', hL, e1, e2, hq, hce, hcv, vx_cls hW₁ hcl, st⟩
end Runs
section Rows
variable {p : Program} {l : Launch} {e : Env} {R : Room} {s : State} {m : MethodId} {args : Array Value} {below : List Frame} {meth : Method} {c : Code} {H : Heap} {locs : List Loc} {cells slots : Nat} {Q : State → Prop}
variable {mc ms : Nat} {free : Addr → Prop} {A0 A1 : Nat → Prop} {H0 : Heap} {a : Array Value} {pc : Nat} {ls : Array Slot} {st0 rest : List Value}
theorem vx_keep {st₀ t T' : State} {L : List Loc} (h0 : st₀.heap = H) (e1 : T'.heap = t.heap) (hS : va_S A0 H0 H locs) (hA : ∀ q, q < H.size → A1 q → A0 q) (hf : ∀ q, free q → A0 q) (hL : ∀ q ∈ L, free q.base) (hF : va_F A1 st₀ t) :
    H.size ≤ T'.heap.size ∧ (∀ q : Nat, q < H.size → ¬ A1 q → T'.heap[q]? = H[q]?) ∧ va_S A0 H0 T'.heap (locs ++ L) := by
  obtain ⟨hz, hk⟩ := hF
  rw [h0] at hz hk
  exact ⟨by rw [e1]; exact hz, fun q h1 h2 => by rw [e1]; exact hk q h1 h2,
    ⟨Nat.le_trans hS.1 (by rw [e1]; exact hz), fun q h1 h2 => by rw [e1, hk q (Nat.lt_of_lt_of_le h1 hS.1) (fun z => h2 (hA q (Nat.lt_of_lt_of_le h1 hS.1) z))]; exact hS.2.1 q h1 h2, fun q hq => by
      rcases List.mem_append.mp hq with h | h
      · exact hS.2.2 q h
      · exact hf _ (hL q h)⟩⟩
theorem vx_calli {S SX : Type} {post : Int32 → S → Prop} {px : SX → Prop} {B : S → State → Prop} {BX : String → SX → State → Prop} {AX : Nat → Prop} (hr : vx_Run p l e R s m args below meth c H locs cells slots mc ms (F0 m pc ls st0) rest (va_Qi post B A1 a) (vx_X px BX AX) free) (hS : va_S A0 H0 H locs) (hA : ∀ q, q < H.size → A1 q → A0 q) (hf : ∀ q, free q → A0 q) (hAX : ∀ q, q < H.size → AX q → A0 q)
    (kx : ∀ (E : String) (ce : Cell) (q9 : Addr) (u : SX) (t : State) (H1 : Heap) (locs1 : List Loc), t.heap = H1 → s.vm.Alike t.vm → px u → BX E u t → H.size ≤ H1.size → (∀ q : Nat, q < H.size → ¬ AX q → H1[q]? = H[q]?) → va_S A0 H0 H1 locs1 → H1[q9]? = some ce → ce.vm = .none → s.vm.findClass E = some ce.cls → vx_W p l e R s m args below meth c H1 locs1 (cells + mc) (slots + ms) Q (F0 m pc ls rest) q9)
    (kk : ∀ (r : Int32) (u : S) (t : State) (H1 : Heap) (locs1 : List Loc), t.heap = H1 → s.vm.Alike t.vm → post r u → B u t → H.size ≤ H1.size → (∀ q : Nat, q < H.size → ¬ A1 q → H1[q]? = H[q]?) → va_S A0 H0 H1 locs1 → W p l e R s m args below meth c H1 locs1 (cells + mc) (slots + ms) Q (F0 m (pc + 3) ls (.int r :: rest))) : W p l e R s m args below meth c H locs cells slots Q (F0 m pc ls st0) := by
  intro T hT X
  rcases hr T hT X with ⟨v, st₀, t, T', L, h0, X', hL, e1, e2, ⟨⟨r, u, hv, hp, hb⟩, hF⟩, st⟩ | ⟨q, st₀, t, T', L, E, ce, h0, X', hL, e1, e2, ⟨u, hp, hb, hF⟩, hce, hcv, hcl, st⟩
  · cases hv
    obtain ⟨k1, k2, k3⟩ := vx_keep h0 e1 hS hA hf hL hF
    obtain ⟨t2, a1, b1⟩ := kk r u t T'.heap (locs ++ L) e1.symm (by rw [← e2]; exact X'.warmed.alike) hp hb k1 k2 k3 T' rfl X'
    exact ⟨t2, st t2 a1, b1⟩
  · obtain ⟨k1, k2, k3⟩ := vx_keep h0 e1 hS hAX hf hL hF
    obtain ⟨t2, a1, b1⟩ := kx E ce q u t T'.heap (locs ++ L) e1.symm (by rw [← e2]; exact X'.warmed.alike) hp hb k1 k2 k3 (by rw [e1]; exact hce) hcv hcl T' rfl X'
    exact ⟨t2, st.trans a1, b1⟩
theorem vx_calll {S SX : Type} {post : Int64 → S → Prop} {px : SX → Prop} {B : S → State → Prop} {BX : String → SX → State → Prop} {AX : Nat → Prop} (hr : vx_Run p l e R s m args below meth c H locs cells slots mc ms (F0 m pc ls st0) rest (va_Ql post B A1 a) (vx_X px BX AX) free) (hS : va_S A0 H0 H locs) (hA : ∀ q, q < H.size → A1 q → A0 q) (hf : ∀ q, free q → A0 q) (hAX : ∀ q, q < H.size → AX q → A0 q)
    (kx : ∀ (E : String) (ce : Cell) (q9 : Addr) (u : SX) (t : State) (H1 : Heap) (locs1 : List Loc), t.heap = H1 → s.vm.Alike t.vm → px u → BX E u t → H.size ≤ H1.size → (∀ q : Nat, q < H.size → ¬ AX q → H1[q]? = H[q]?) → va_S A0 H0 H1 locs1 → H1[q9]? = some ce → ce.vm = .none → s.vm.findClass E = some ce.cls → vx_W p l e R s m args below meth c H1 locs1 (cells + mc) (slots + ms) Q (F0 m pc ls rest) q9)
    (kk : ∀ (r : Int64) (u : S) (t : State) (H1 : Heap) (locs1 : List Loc), t.heap = H1 → s.vm.Alike t.vm → post r u → B u t → H.size ≤ H1.size → (∀ q : Nat, q < H.size → ¬ A1 q → H1[q]? = H[q]?) → va_S A0 H0 H1 locs1 → W p l e R s m args below meth c H1 locs1 (cells + mc) (slots + ms) Q (F0 m (pc + 3) ls (.long r :: rest))) : W p l e R s m args below meth c H locs cells slots Q (F0 m pc ls st0) := by
  intro T hT X
  rcases hr T hT X with ⟨v, st₀, t, T', L, h0, X', hL, e1, e2, ⟨⟨r, u, hv, hp, hb⟩, hF⟩, st⟩ | ⟨q, st₀, t, T', L, E, ce, h0, X', hL, e1, e2, ⟨u, hp, hb, hF⟩, hce, hcv, hcl, st⟩
  · cases hv
    obtain ⟨k1, k2, k3⟩ := vx_keep h0 e1 hS hA hf hL hF
    obtain ⟨t2, a1, b1⟩ := kk r u t T'.heap (locs ++ L) e1.symm (by rw [← e2]; exact X'.warmed.alike) hp hb k1 k2 k3 T' rfl X'
    exact ⟨t2, st t2 a1, b1⟩
  · obtain ⟨k1, k2, k3⟩ := vx_keep h0 e1 hS hAX hf hL hF
    obtain ⟨t2, a1, b1⟩ := kx E ce q u t T'.heap (locs ++ L) e1.symm (by rw [← e2]; exact X'.warmed.alike) hp hb k1 k2 k3 (by rw [e1]; exact hce) hcv hcl T' rfl X'
    exact ⟨t2, st.trans a1, b1⟩
theorem vx_callf {S SX : Type} {post : UInt32 → S → Prop} {px : SX → Prop} {B : S → State → Prop} {BX : String → SX → State → Prop} {AX : Nat → Prop} (hr : vx_Run p l e R s m args below meth c H locs cells slots mc ms (F0 m pc ls st0) rest (va_Qf post B A1 a) (vx_X px BX AX) free) (hS : va_S A0 H0 H locs) (hA : ∀ q, q < H.size → A1 q → A0 q) (hf : ∀ q, free q → A0 q) (hAX : ∀ q, q < H.size → AX q → A0 q)
    (kx : ∀ (E : String) (ce : Cell) (q9 : Addr) (u : SX) (t : State) (H1 : Heap) (locs1 : List Loc), t.heap = H1 → s.vm.Alike t.vm → px u → BX E u t → H.size ≤ H1.size → (∀ q : Nat, q < H.size → ¬ AX q → H1[q]? = H[q]?) → va_S A0 H0 H1 locs1 → H1[q9]? = some ce → ce.vm = .none → s.vm.findClass E = some ce.cls → vx_W p l e R s m args below meth c H1 locs1 (cells + mc) (slots + ms) Q (F0 m pc ls rest) q9)
    (kk : ∀ (r : UInt32) (u : S) (t : State) (H1 : Heap) (locs1 : List Loc), t.heap = H1 → s.vm.Alike t.vm → post r u → B u t → H.size ≤ H1.size → (∀ q : Nat, q < H.size → ¬ A1 q → H1[q]? = H[q]?) → va_S A0 H0 H1 locs1 → W p l e R s m args below meth c H1 locs1 (cells + mc) (slots + ms) Q (F0 m (pc + 3) ls (.float r :: rest))) : W p l e R s m args below meth c H locs cells slots Q (F0 m pc ls st0) := by
  intro T hT X
  rcases hr T hT X with ⟨v, st₀, t, T', L, h0, X', hL, e1, e2, ⟨⟨r, u, hv, hp, hb⟩, hF⟩, st⟩ | ⟨q, st₀, t, T', L, E, ce, h0, X', hL, e1, e2, ⟨u, hp, hb, hF⟩, hce, hcv, hcl, st⟩
  · cases hv
    obtain ⟨k1, k2, k3⟩ := vx_keep h0 e1 hS hA hf hL hF
    obtain ⟨t2, a1, b1⟩ := kk r u t T'.heap (locs ++ L) e1.symm (by rw [← e2]; exact X'.warmed.alike) hp hb k1 k2 k3 T' rfl X'
    exact ⟨t2, st t2 a1, b1⟩
  · obtain ⟨k1, k2, k3⟩ := vx_keep h0 e1 hS hAX hf hL hF
    obtain ⟨t2, a1, b1⟩ := kx E ce q u t T'.heap (locs ++ L) e1.symm (by rw [← e2]; exact X'.warmed.alike) hp hb k1 k2 k3 (by rw [e1]; exact hce) hcv hcl T' rfl X'
    exact ⟨t2, st.trans a1, b1⟩
theorem vx_calld {S SX : Type} {post : UInt64 → S → Prop} {px : SX → Prop} {B : S → State → Prop} {BX : String → SX → State → Prop} {AX : Nat → Prop} (hr : vx_Run p l e R s m args below meth c H locs cells slots mc ms (F0 m pc ls st0) rest (va_Qd post B A1 a) (vx_X px BX AX) free) (hS : va_S A0 H0 H locs) (hA : ∀ q, q < H.size → A1 q → A0 q) (hf : ∀ q, free q → A0 q) (hAX : ∀ q, q < H.size → AX q → A0 q)
    (kx : ∀ (E : String) (ce : Cell) (q9 : Addr) (u : SX) (t : State) (H1 : Heap) (locs1 : List Loc), t.heap = H1 → s.vm.Alike t.vm → px u → BX E u t → H.size ≤ H1.size → (∀ q : Nat, q < H.size → ¬ AX q → H1[q]? = H[q]?) → va_S A0 H0 H1 locs1 → H1[q9]? = some ce → ce.vm = .none → s.vm.findClass E = some ce.cls → vx_W p l e R s m args below meth c H1 locs1 (cells + mc) (slots + ms) Q (F0 m pc ls rest) q9)
    (kk : ∀ (r : UInt64) (u : S) (t : State) (H1 : Heap) (locs1 : List Loc), t.heap = H1 → s.vm.Alike t.vm → post r u → B u t → H.size ≤ H1.size → (∀ q : Nat, q < H.size → ¬ A1 q → H1[q]? = H[q]?) → va_S A0 H0 H1 locs1 → W p l e R s m args below meth c H1 locs1 (cells + mc) (slots + ms) Q (F0 m (pc + 3) ls (.double r :: rest))) : W p l e R s m args below meth c H locs cells slots Q (F0 m pc ls st0) := by
  intro T hT X
  rcases hr T hT X with ⟨v, st₀, t, T', L, h0, X', hL, e1, e2, ⟨⟨r, u, hv, hp, hb⟩, hF⟩, st⟩ | ⟨q, st₀, t, T', L, E, ce, h0, X', hL, e1, e2, ⟨u, hp, hb, hF⟩, hce, hcv, hcl, st⟩
  · cases hv
    obtain ⟨k1, k2, k3⟩ := vx_keep h0 e1 hS hA hf hL hF
    obtain ⟨t2, a1, b1⟩ := kk r u t T'.heap (locs ++ L) e1.symm (by rw [← e2]; exact X'.warmed.alike) hp hb k1 k2 k3 T' rfl X'
    exact ⟨t2, st t2 a1, b1⟩
  · obtain ⟨k1, k2, k3⟩ := vx_keep h0 e1 hS hAX hf hL hF
    obtain ⟨t2, a1, b1⟩ := kx E ce q u t T'.heap (locs ++ L) e1.symm (by rw [← e2]; exact X'.warmed.alike) hp hb k1 k2 k3 (by rw [e1]; exact hce) hcv hcl T' rfl X'
    exact ⟨t2, st.trans a1, b1⟩
theorem vx_callv {S SX : Type} {post : S → Prop} {px : SX → Prop} {B : S → State → Prop} {BX : String → SX → State → Prop} {AX : Nat → Prop} (hr : vx_Run p l e R s m args below meth c H locs cells slots mc ms (F0 m pc ls st0) rest (va_Qv post B A1 a) (vx_X px BX AX) free) (hS : va_S A0 H0 H locs) (hA : ∀ q, q < H.size → A1 q → A0 q) (hf : ∀ q, free q → A0 q) (hAX : ∀ q, q < H.size → AX q → A0 q)
    (kx : ∀ (E : String) (ce : Cell) (q9 : Addr) (u : SX) (t : State) (H1 : Heap) (locs1 : List Loc), t.heap = H1 → s.vm.Alike t.vm → px u → BX E u t → H.size ≤ H1.size → (∀ q : Nat, q < H.size → ¬ AX q → H1[q]? = H[q]?) → va_S A0 H0 H1 locs1 → H1[q9]? = some ce → ce.vm = .none → s.vm.findClass E = some ce.cls → vx_W p l e R s m args below meth c H1 locs1 (cells + mc) (slots + ms) Q (F0 m pc ls rest) q9)
    (kk : ∀ (u : S) (t : State) (H1 : Heap) (locs1 : List Loc), t.heap = H1 → s.vm.Alike t.vm → post u → B u t → H.size ≤ H1.size → (∀ q : Nat, q < H.size → ¬ A1 q → H1[q]? = H[q]?) → va_S A0 H0 H1 locs1 → W p l e R s m args below meth c H1 locs1 (cells + mc) (slots + ms) Q (F0 m (pc + 3) ls (rest))) : W p l e R s m args below meth c H locs cells slots Q (F0 m pc ls st0) := by
  intro T hT X
  rcases hr T hT X with ⟨v, st₀, t, T', L, h0, X', hL, e1, e2, ⟨⟨u, hv, hp, hb⟩, hF⟩, st⟩ | ⟨q, st₀, t, T', L, E, ce, h0, X', hL, e1, e2, ⟨u, hp, hb, hF⟩, hce, hcv, hcl, st⟩
  · cases hv
    obtain ⟨k1, k2, k3⟩ := vx_keep h0 e1 hS hA hf hL hF
    obtain ⟨t2, a1, b1⟩ := kk u t T'.heap (locs ++ L) e1.symm (by rw [← e2]; exact X'.warmed.alike) hp hb k1 k2 k3 T' rfl X'
    exact ⟨t2, st t2 a1, b1⟩
  · obtain ⟨k1, k2, k3⟩ := vx_keep h0 e1 hS hAX hf hL hF
    obtain ⟨t2, a1, b1⟩ := kx E ce q u t T'.heap (locs ++ L) e1.symm (by rw [← e2]; exact X'.warmed.alike) hp hb k1 k2 k3 (by rw [e1]; exact hce) hcv hcl T' rfl X'
    exact ⟨t2, st.trans a1, b1⟩
/-- caught by the row x of this method's table; the rows ahead don't take it -/
theorem vx_catch {own name : String} {E : String} {ce : Cell} {q : Addr} (hown : s.vm.findClass own = some m.cls) (pre : List ExceptionTableEntry) (x : ExceptionTableEntry) (suf : List ExceptionTableEntry) (hsplit : c.exceptionTable.toList = pre ++ x :: suf)
    (hpass : ∀ z ∈ pre, covers z pc = false ∨ (z.catchType ≠ 0 ∧ ∃ nm : String, (Cond.classLink own z.catchType nm).before args s = true ∧ va_Nc E nm s)) (hx : covers x pc = true) (h0 : x.catchType ≠ 0)
    (hlink : (Cond.classLink own x.catchType name).before args s = true) (hcast : (Cond.castable E name).before args s = true) (hcell : H[q]? = some ce) (hv : ce.vm = .none) (hcl : s.vm.findClass E = some ce.cls)
    (kk : W p l e R s m args below meth c H locs cells slots Q (F0 m x.handlerPc ls [.ref q])) : vx_W p l e R s m args below meth c H locs cells slots Q (F0 m pc ls rest) q := by
  intro T hT X
  have hpl : e.platform.magicAccessors = ({} : Platform).magicAccessors := by rw [X.admits.platform]
  obtain ⟨c3, c4, hc3, hc4, hasg⟩ := Cond.castable_spec hcast
  cases Option.some.inj (hc3.symm.trans hcl)
  obtain ⟨c5, hc5, hcl5⟩ := Cond.classLink_spec hown hlink e.platform hpl
  cases Option.some.inj (hc4.symm.trans hc5)
  obtain ⟨vm', X', st⟩ := X.thenCaughtThrough q (g := F0 m pc ls rest) rfl (Steps.refl _) (by rw [hT]; exact hcell) (by rw [hv]; rfl) (by obtain ⟨k9, h9, -⟩ := Vm.findClass_spec hcl; exact ⟨k9, h9⟩) pre x suf hsplit
    (fun z hz => by
      rcases hpass z hz with h | ⟨hz0, nm, hl1, hn1⟩
      · exact Or.inl h
      · obtain ⟨c6, hc6, hcl6⟩ := Cond.classLink_spec hown hl1 e.platform hpl
        obtain ⟨a8, b8, h1, h2, h3⟩ := hn1
        cases Option.some.inj (h1.symm.trans hcl)
        cases Option.some.inj (h2.symm.trans hc6)
        exact Or.inr ⟨hz0, _, hcl6, h3⟩) hx (Or.inr ⟨h0, c4, hcl5, hasg⟩)
  obtain ⟨t, a1, b1⟩ := kk (T.setVm vm') hT X'
  exact ⟨t, st.trans a1, b1⟩
end Rows
section Ends
variable {p : Program} {l : Launch} {e : Env} {R : Room} {s : State} {m : MethodId} {args : Array Value} {below : List Frame} {meth : Method} {c : Code} {H : Heap} {locs : List Loc} {cells slots : Nat} {Q : State → Prop}
variable {mc ms : Nat} {free : Addr → Prop} {A0 A1 : Nat → Prop} {H0 : Heap} {a : Array Value} {ls : Array Slot} {st0 rest : List Value}
variable {Qc : Array Value → State → Outcome → State → Prop} {XC : String → State → State → Prop}
/-- what a body that may throw owes at its end -/
def vx_MQ (below : List Frame) (Qc : Array Value → State → Outcome → State → Prop) (XC : String → State → State → Prop) (a : Array Value) (s : State) (mc ms : Nat) (free : Addr → Prop) : State → Prop := fun t =>
  ∃ o, t.status = .running ∧ Ended t below o ∧ vx_Q Qc XC mc ms free a s o t
theorem vx_ret {g : JFrame} {mc ms : Nat} (k : W p l e R s m args below meth c H locs cells slots (MQ below Qc args s mc ms free) g) : W p l e R s m args below meth c H locs cells slots (vx_MQ below Qc XC args s mc ms free) g := by
  intro T hT X
  obtain ⟨t, a1, o, b1, b2, b3, b4⟩ := k T hT X
  exact ⟨t, a1, o, b1, b2, Or.inl ⟨b3, b4⟩⟩
/-- not caught here: it goes on to the caller -/
theorem vx_widen {g : JFrame} {q : Addr} {k n : Nat} (h1 : cells ≤ k) (h2 : slots ≤ n) (kk : vx_W p l e R s m args below meth c H locs k n Q g q) : vx_W p l e R s m args below meth c H locs cells slots Q g q := fun T hT X => kk T hT (stand_widen X h1 h2)
theorem vx_out {pc : Nat} {E : String} {ce : Cell} {q : Addr} {mc ms : Nat} (hout : ∀ x ∈ c.exceptionTable.toList, covers x pc = false) (hlocks : meth.locks = false) (hcell : H[q]? = some ce) (hv : ce.vm = .none) (hcl : s.vm.findClass E = some ce.cls)
    (hx : ∀ t : State, t.heap = H → s.vm.Alike t.vm → XC E s t) (hf : ∀ z ∈ locs, free z.base) (hc : cells ≤ mc) (hs : slots ≤ ms) :
    vx_W p l e R s m args below meth c H locs cells slots (vx_MQ below Qc XC args s mc ms free) (F0 m pc ls rest) q := by
  intro T hT X
  obtain ⟨st1, hrun, hend, hW, hsm⟩ := X.leaveThrown q (g := F0 m pc ls rest) rfl rfl rfl hout hlocks
  have hcell9 : (T.setFrames (.throwing q :: below)).heap[q]? = some ce := by
    show T.heap[q]? = some ce
    rw [hT]; exact hcell
  exact ⟨_, st1, .threw q, hrun, hend, Or.inr ⟨q, rfl, E, ce, locs, hx _ hT hW.alike, hcell9, hv, hcl, hW, hsm.mono hc hs, hf⟩⟩
theorem vx_frame {U : State} {k n : Nat} (h : s.sameButNew ({ U with vm := s.vm } : State) locs k n) : s.heap.size ≤ U.heap.size ∧ ∀ q : Nat, q < s.heap.size → (∀ z ∈ locs, z.base ≠ q) → U.heap[q]? = s.heap[q]? := by
  obtain ⟨-, h2, -, -, -, h6⟩ := h
  refine ⟨h2, fun q hq hz => ?_⟩
  obtain ⟨c9, e1, e2, e3, e4⟩ := h6 q _ (Array.getElem?_eq_getElem hq)
  have hs : c9.slots = (s.heap[q]).slots := Array.ext_getElem? fun i => e4 i fun hm => hz _ hm rfl
  have h9 : c9 = s.heap[q] := by
    rw [hs] at e2
    exact e2
  have e5 : U.heap[q]? = some c9 := e1
  rw [e5, h9, Array.getElem?_eq_getElem hq]
/-- the words of a throw but the four that speak of the heap -/
def vx_no (w : Cond) : Bool := decide (w ≠ .isRef (.static Bundle.tN "UNASSIGNED_STACK" Bundle.steD)) && decide (w ≠ .isRef (.static Bundle.tN "SUPPRESSED_SENTINEL" Bundle.listD)) && decide (w ≠ .laysStatic Bundle.tN "UNASSIGNED_STACK" Bundle.steD) && decide (w ≠ .laysStatic Bundle.tN "SUPPRESSED_SENTINEL" Bundle.listD)
def vx_at0 (own : String) (ic : Nat) (X : String) (names : List String) : List Cond := (Bundle.ownAtoms0 own ic X names).filter vx_no
def vx_atS (own : String) (ic : Nat) (X : String) (names : List String) : List Cond := (Bundle.ownAtoms own ic X names).filter vx_no
/-- a word that the tables alone decide, or a good one -/
def vx_ot (w : Cond) : Bool := w.onTables || goodWord w
theorem vx_ot_at {args a' : Array Value} {s U : State} {w : Cond} (hW : s.WarmedH U.vm) (hvm : s.vm = U.vm) (hg : vx_ot w = true) (h : w.before args s = true) : w.before a' U = true := by
  simp only [vx_ot, Bool.or_eq_true] at hg
  rcases hg with hg | hg
  · exact va_tabs hg hvm h
  · exact word_at hW (good_of_word hg) h
/-- a list's words: the good ones out of the method's own list, the others by premises of their own -/
theorem vx_hat {args : Array Value} {s : State} {L B : List Cond} (h1 : ∀ w ∈ L.filter goodWord, w.before args s = true) (h2 : ∀ w ∈ L.filter (fun w => !goodWord w), w ∈ B) (h3 : ∀ w ∈ B, w.before args s = true) : ∀ w ∈ L, w.before args s = true := by
  intro w hw
  by_cases g : goodWord w = true
  · exact h1 w (List.mem_filter.mpr ⟨hw, g⟩)
  · refine h3 w (h2 w (List.mem_filter.mpr ⟨hw, ?_⟩))
    show (!goodWord w) = true
    cases hgw : goodWord w
    · rfl
    · exact absurd hgw g
theorem vx_c {args : Array Value} {s : State} {w : Cond} {B : List Cond} (h : w.before args s = true) (t : ∀ w ∈ B, w.before args s = true) : ∀ w' ∈ w :: B, w'.before args s = true := fun w' h' => (List.mem_cons.mp h').elim (fun e => by rw [e]; exact h) (t w')
theorem vx_n {args : Array Value} {s : State} : ∀ w ∈ ([] : List Cond), w.before args s = true := fun _ h => nomatch h
theorem vx_own {args : Array Value} {s : State} {L : List Cond} (h1 : ∀ w ∈ L.filter vx_no, w.before args s = true)
    (hU : (Cond.isRef (.static Bundle.tN "UNASSIGNED_STACK" Bundle.steD)).before args s = true) (hN : (Cond.isRef (.static Bundle.tN "SUPPRESSED_SENTINEL" Bundle.listD)).before args s = true)
    (lU : (Cond.laysStatic Bundle.tN "UNASSIGNED_STACK" Bundle.steD).before args s = true) (lN : (Cond.laysStatic Bundle.tN "SUPPRESSED_SENTINEL" Bundle.listD).before args s = true) : ∀ w ∈ L, w.before args s = true := by
  intro w hw
  by_cases e1 : w = .isRef (.static Bundle.tN "UNASSIGNED_STACK" Bundle.steD)
  · rw [e1]; exact hU
  · by_cases e2 : w = .isRef (.static Bundle.tN "SUPPRESSED_SENTINEL" Bundle.listD)
    · rw [e2]; exact hN
    · by_cases e3 : w = .laysStatic Bundle.tN "UNASSIGNED_STACK" Bundle.steD
      · rw [e3]; exact lU
      · by_cases e4 : w = .laysStatic Bundle.tN "SUPPRESSED_SENTINEL" Bundle.listD
        · rw [e4]; exact lN
        · exact h1 w (List.mem_filter.mpr ⟨hw, by unfold vx_no; rw [decide_eq_true e1, decide_eq_true e2, decide_eq_true e3, decide_eq_true e4]; rfl⟩)
/-- where a static field lies, its class's statics cell in H -/
def vx_L (C n d : String) (A : Nat → Prop) (U : State) (H : Heap) : Prop := ∃ (c : ClassId) (k : Class) (i : Nat) (f : Field) (a : Nat) (cell : Cell), U.vm.findClass C = some c ∧ U.fieldFound? C n d = some (c, k, i, f) ∧ f.isStatic = true ∧ k.statics = some a ∧ H[a]? = some cell ∧ cell.vm.isStatics = true ∧ cell.cls = c ∧ f.slot < cell.slots.size ∧ k.staticTypes[f.slot]? = some f.type ∧ ¬ A a
theorem vx_L.moved {C n d : String} {A : Nat → Prop} {u U : State} {H : Heap} (hvm : u.vm.Alike U.vm) (h : vx_L C n d A u H) : vx_L C n d A U H := by
  obtain ⟨c, k, i, f, a, cell, h1, h2, h3, h4, h5, h6, h7, h8, h9, h10⟩ := h
  obtain ⟨k', hi', he⟩ := State.fieldFound?_setVm hvm h2
  exact ⟨c, k', i, f, a, cell, by rw [hvm.findClass]; exact h1, hi', h3, by rw [he]; exact h4, h5, h6, h7, h8, by rw [he]; exact h9, h10⟩
theorem vx_L.kept {C n d : String} {A : Nat → Prop} {U : State} {H H1 : Heap} (h : vx_L C n d A U H) (hq : ∀ a : Nat, a < H.size → ¬ A a → H1[a]? = H[a]?) : vx_L C n d A U H1 := by
  obtain ⟨c, k, i, f, a, cell, h1, h2, h3, h4, h5, h6, h7, h8, h9, h10⟩ := h
  exact ⟨c, k, i, f, a, cell, h1, h2, h3, h4, by rw [hq a (Array.getElem?_eq_some_iff.mp h5).1 h10]; exact h5, h6, h7, h8, h9, h10⟩
theorem vx_L.narrow {C n d : String} {A B : Nat → Prop} {U : State} {H : Heap} (h : vx_L C n d A U H) (hAB : ∀ q, B q → A q) : vx_L C n d B U H := by
  obtain ⟨c, k, i, f, a, cell, h1, h2, h3, h4, h5, h6, h7, h8, h9, h10⟩ := h
  exact ⟨c, k, i, f, a, cell, h1, h2, h3, h4, h5, h6, h7, h8, h9, fun z => h10 (hAB _ z)⟩
theorem vx_L.word {C n d : String} {A : Nat → Prop} {s : State} {args : Array Value} (h : vx_L C n d A s s.heap) : (Cond.laysStatic C n d).before args s = true := by
  obtain ⟨c, k, i, f, a, cell, h1, h2, h3, h4, h5, h6, h7, h8, h9, -⟩ := h
  show (Cond.laysStatic C n d).holds args s none s [] = true
  exact Cond.laysStatic_of h1 h2 h3 h4 h5 h6 h7 h8 h9
/-- .. and what it holds: null or some reference -/
def vx_Zq (C n d : String) (A : Nat → Prop) (U : State) (H : Heap) : Prop := va_Zq C n d A U H ∧ vx_L C n d A U H
theorem vx_Zq.moved {C n d : String} {A : Nat → Prop} {u U : State} {H : Heap} (hvm : u.vm.Alike U.vm) (h : vx_Zq C n d A u H) : vx_Zq C n d A U H := ⟨va_Zq.moved hvm h.1, vx_L.moved hvm h.2⟩
theorem vx_Zq.kept {C n d : String} {A : Nat → Prop} {U : State} {H H1 : Heap} (h : vx_Zq C n d A U H) (hq : ∀ a : Nat, a < H.size → ¬ A a → H1[a]? = H[a]?) : vx_Zq C n d A U H1 := ⟨va_Zq.kept h.1 hq, vx_L.kept h.2 hq⟩
theorem vx_Zq.narrow {C n d : String} {A B : Nat → Prop} {U : State} {H : Heap} (h : vx_Zq C n d A U H) (hAB : ∀ q, B q → A q) : vx_Zq C n d B U H := ⟨va_Zq.narrow h.1 hAB, vx_L.narrow h.2 hAB⟩
theorem vx_Zqof {args : Array Value} {s : State} {C n d : String} {A : Nat → Prop} (hl : (Cond.laysStatic C n d).before args s = true) (hini : (Cond.initialized C).before args s = true) (h : (Cond.isRef (.static C n d)).before args s = true) (hA : ∀ a : Nat, a < s.heap.size → ¬ A a) : vx_Zq C n d A s s.heap := by
  refine ⟨va_Zqof hl hini h hA, ?_⟩
  obtain ⟨c, k, i, f, a, cell, h1, h2, h3, h4, h5, h6, h7, h8, h9⟩ := Cond.laysStatic_spec hl
  exact ⟨c, k, i, f, a, cell, h1, h2, h3, h4, h5, h6, h7, h8, h9, hA a (Array.getElem?_eq_some_iff.mp h5).1⟩
theorem vx_isRef {C n d : String} {v : Value} {A : Nat → Prop} {s : State} {args : Array Value} (h : va_Z C n d v A s s.heap) (hv : v.isRef = true) : (Cond.isRef (.static C n d)).before args s = true := by
  obtain ⟨cf, kf, fi, f, a, cell, h1, h2, h3, h4, h5, h6, h7, -⟩ := h
  have he : (Term.static C n d).eval args s none [] s = some v := by
    simp [Term.eval, State.fieldNamed?, h1, h2, h4, h5, h6, h7]
  simp only [Cond.before, Cond.holds, Cond.value, he]
  cases v <;> simp_all [Value.isRef]
theorem vx_isRefq {C n d : String} {A : Nat → Prop} {s : State} {args : Array Value} (h : va_Zq C n d A s s.heap) : (Cond.isRef (.static C n d)).before args s = true := by
  rcases h with h | ⟨t, h⟩
  · exact vx_isRef h rfl
  · exact vx_isRef h rfl
/-- the same frame, seen from here: as if the method were called anew in this heap -/
theorem vx_rebase {T : State} (X : Stand p l e R s m args below meth c T locs cells slots) {R' : Room} (hf : R'.frames ≤ R.frames) (hl : R'.locals ≤ R.locals) (hc : cells + R'.cells ≤ R.cells) (hs : slots + R'.slots ≤ R.slots) :
    Stand p l e R' ((T.setVm s.vm).setFrames (.invoking m args :: below)) m args below meth c T [] 0 0 := by
  have htop : (T.setVm s.vm).topJava?.isSome := X.here.top
  have hF : ((T.setVm s.vm).setFrames (.invoking m args :: below)).frames = .invoking m args :: below := State.frames_setFrames _ (State.cur_lt_of_top htop)
  obtain ⟨g₀, hg0⟩ := Option.isSome_iff_exists.mp htop
  obtain ⟨r, hr⟩ := State.topJava?_eq_some.mp hg0
  have hl9 : e.platform.stackLimits (T.setVm s.vm).me = e.platform.stackLimits s.me := X.limits
  have hb9 : (T.setVm s.vm).me.stackBytes = s.me.stackBytes := X.bytes
  refine ⟨X.admits, X.cas, X.clock, hF, ?_, X.hears, X.method, X.code, X.here, X.tail, X.warmed, ?_, ?_, ?_⟩
  · have h := X.room
    have hU : ((T.setVm s.vm).setFrames (.invoking m args :: below)).localsInUse = s.localsInUse := by
      rw [State.localsInUse_invoking hF (meth := meth) (c := c) X.method X.code, State.localsInUse_invoking X.frames X.method X.code]
    simp only [State.hasRoom, Bool.and_eq_true, decide_eq_true_eq] at h ⊢
    obtain ⟨⟨⟨⟨h1, h2, h3, h4, h5, h6⟩, h7⟩, h8⟩, h9⟩ := h
    rw [X.frames, List.length_cons] at h2 h3
    have q1 := X.heapSize
    have q2 := X.used
    simp only [hF, hU, List.length_cons, State.stackLimits_setFrames, State.stackBytes_setFrames, hl9, hb9]
    refine ⟨⟨⟨⟨by omega, by omega, by omega, by omega, by omega, h6⟩, ?_⟩, ?_⟩, X.book⟩
    · show T.heap.size + R'.cells ≤ e.platform.maxCells
      omega
    · show T.slotsUsed + R'.slots ≤ e.platform.maxSlots
      omega
  · rw [State.stackLimits_setFrames]; rfl
  · rw [State.stackBytes_setFrames]; rfl
  · refine ⟨?_, Nat.le_refl _, Nat.le_refl _, ?_, ?_, fun a c9 h9 => ⟨c9, h9, rfl, rfl, fun _ _ => rfl⟩⟩
    · obtain ⟨t, ht, -⟩ := State.frames_cons hr
      show T.setVm s.vm = { ((T.setVm s.vm).setFrames (.invoking m args :: below)).setFrames (T.setVm s.vm).frames with heap := T.heap, slotsUsed := T.slotsUsed }
      rw [State.setFrames_setFrames, State.setFrames_self ht]
      rfl
    · show T.slotsUsed = T.slotsUsed + ((T.heap.toList.drop T.heap.size).map (·.slots.size)).sum
      rw [List.drop_eq_nil_of_le (Nat.le_of_eq Array.length_toList)]
      rfl
    · show ((T.heap.toList.drop T.heap.size).map (·.slots.size)).sum ≤ 0
      rw [List.drop_eq_nil_of_le (Nat.le_of_eq Array.length_toList)]
      exact Nat.le_refl _
/-- 'throw new E()': new; dup; invokespecial; athrow -/
theorem vx_throw0 {cc : ByteArray} {pc : Nat} (hexec : p.tables.exec = Jvm.exec) (hb : c.code = cc) (hl : l.stackTraces = false) {own cls : String} {names : List String} {ik ic mc ms : Nat} {A : Nat → Prop}
    (hown : s.vm.findClass own = some m.cls) (hcls : Bundle.fit cls = true) (hnames : ∀ n ∈ names, Bundle.fit n = true)
    (hk : (Cond.classLink own ik cls).before args s = true) (hini : (Cond.initialized cls).before args s = true) (hat : ∀ w ∈ vx_at0 own ic cls names, w.before args s = true)
    (hgood : ∀ w ∈ Cond.classLink own ik cls :: Cond.initialized cls :: vx_at0 own ic cls names, vx_ot w = true)
    (hU : vx_Zq Bundle.tN "UNASSIGNED_STACK" Bundle.steD A s s.heap) (hN : vx_Zq Bundle.tN "SUPPRESSED_SENTINEL" Bundle.listD A s s.heap) (hS : va_S A s.heap H locs) (hsize : ls.size = c.maxLocals)
    (d0 : decode cc pc = .ok (.new ik, 3)) (d3 : decode cc (pc + 3) = .ok (.dup, 1)) (d4 : decode cc (pc + 4) = .ok (.invokespecial ic, 3)) (d7 : decode cc (pc + 7) = .ok (.athrow, 1))
    (hout : ∀ x ∈ c.exceptionTable.toList, covers x (pc + 7) = false)
    (hRframes : names.length + 3 < R.frames) (hRlocals : (rest.map fun v => v.category).sum + (13 * (names.length + 1) + 42) ≤ R.locals) (hRcells : cells + 1 ≤ R.cells) (hRslots : slots + 6 ≤ R.slots) (hlocks : meth.locks = false)
    (hx : ∀ t : State, s.vm.Alike t.vm → H.size ≤ t.heap.size → (∀ q : Nat, q < H.size → t.heap[q]? = H[q]?) → XC cls s t)
    (hf : ∀ z ∈ locs, free z.base) (hc : cells + 1 ≤ mc) (hs : slots + 6 ≤ ms) :
    W p l e R s m args below meth c H locs cells slots (vx_MQ below Qc XC args s mc ms free) (F0 m pc ls rest) := by
  intro T hT X
  have htr : e.platform.stackTraces = false := (show e.platform.stackTraces = l.stackTraces by rw [X.admits.platform]).trans hl
  have Y := vx_rebase X (R' := { frames := R.frames, locals := R.locals, cells := 1, slots := 6 }) (Nat.le_refl _) (Nat.le_refl _) hRcells hRslots
  obtain ⟨s', hA⟩ : ∃ z, z = (T.setVm s.vm).setFrames (.invoking m args :: below) := ⟨_, rfl⟩
  rw [← hA] at Y
  have hvm : s'.vm = s.vm := by rw [hA]; rfl
  have hhp : s'.heap = H := by rw [hA]; exact hT
  have hW0 : s.WarmedH s'.vm := by rw [hvm]; exact State.WarmedH.refl s
  have hat' : ∀ w ∈ vx_at0 own ic cls names, w.before args s' = true := fun w hw => vx_ot_at hW0 hvm.symm (hgood w (List.mem_cons_of_mem _ (List.mem_cons_of_mem _ hw))) (hat w hw)
  have hk' : (Cond.classLink own ik cls).before args s' = true := vx_ot_at hW0 hvm.symm (hgood _ List.mem_cons_self) hk
  have hini' : (Cond.initialized cls).before args s' = true := vx_ot_at hW0 hvm.symm (hgood _ (List.mem_cons_of_mem _ List.mem_cons_self)) hini
  have hU' : vx_Zq Bundle.tN "UNASSIGNED_STACK" Bundle.steD A s' s'.heap := by rw [hhp]; exact vx_Zq.moved hW0.alike (hU.kept hS.2.1)
  have hN' : vx_Zq Bundle.tN "SUPPRESSED_SENTINEL" Bundle.listD A s' s'.heap := by rw [hhp]; exact vx_Zq.moved hW0.alike (hN.kept hS.2.1)
  have h : ∀ w ∈ Bundle.ownAtoms0 own ic cls names, w.before args s' = true := vx_own hat' (vx_isRefq hU'.1) (vx_isRefq hN'.1) hU'.2.word hN'.2.word
  have hown' : s'.vm.findClass own = some m.cls := by rw [hvm]; exact hown
  have hins : (Cond.instantiable cls 6).before args s' = true := h _ (by simp [Bundle.ownAtoms0])
  obtain ⟨vm₁, cX, kX, hfX, hkX, -, -, X₁, st1⟩ := Y.newCold hexec (own := own) (C := cls) (index := ik) (n := 6) hown' hk' hins hini'
    (g := F0 m pc ls rest) rfl (by rw [hb]; exact d0) (Nat.le_refl _) (Nat.le_refl _)
  generalize hT1 : (T.setVm vm₁).pushCell { cls := cX, slots := kX.instanceTypes.map defaultValue, vm := .none } = T1 at X₁ st1
  have hcat : (Value.ref T.heap.size).category = 1 := rfl
  have hcellA : T1.heap[T.heap.size]? = some (freshCell cX kX) := by rw [← hT1]; exact State.heap_pushCell_size _ _
  have d3' : decode c.code (pc + 3) = .ok (.dup, 1) := by rw [hb]; exact d3
  obtain ⟨U, hsteps, hrun, hend, hW, hsame, ce, hce, hO⟩ := X₁.ctorThrow0 hexec htr (own := own) (cls := cls) (names := names) (ic := ic) hown' hcls hnames h (fun x hx => nomatch hx) hfX hkX hcellA (by rw [hhp, hT]; exact Nat.le_refl _)
    (g := { method := m, pc := pc + 4, locals := ls, stack := .ref T.heap.size :: .ref T.heap.size :: rest, locked := none }) rfl hsize rfl rfl (rest := rest) rfl
    (by rw [hb]; exact d4) (by rw [hb]; exact d7) hout hRframes (by simp only [List.map_cons, List.sum_cons, hcat]; omega) hlocks
  obtain ⟨f1, f2⟩ := vx_frame hsame
  rw [hhp] at f1 f2
  have hWs : s.WarmedH U.vm := State.WarmedH.trans hW0 hW
  have hcl : s.vm.findClass cls = some ce.cls := by
    have h9 := hO.cls
    rw [hvm] at h9
    exact h9
  have hall : s.sameButNew ({ U with vm := s.vm } : State) locs mc ms := by
    subst hA
    obtain ⟨e1, e2⟩ := hsame
    rw [State.setFrames_setFrames] at e1
    have h2 : (T.setVm s.vm).sameButNew ({ U with vm := s.vm } : State) [] (0 + 1) (0 + 6) := ⟨e1, e2⟩
    have h3 := X.same.trans h2
    rw [List.append_nil] at h3
    exact h3.mono hc hs
  refine ⟨U, ?_, .threw T.heap.size, hrun, hend, Or.inr ⟨T.heap.size, rfl, cls, ce, locs, hx U hWs.alike f1 (fun q hq => f2 q hq (fun z hz => nomatch hz)), hce, hO.vm, hcl, hWs, hall, hf⟩⟩
  refine st1 _ ?_
  show Steps p.tables e below (T1.setTop { method := m, pc := pc + 3, locals := ls, stack := .ref T.heap.size :: rest, locked := none }) _
  jvm_step X₁.here [X₁.here.top, hexec, d3', Value.category]
  exact hsteps
/-- 'throw new E("text")': new; dup; ldc; invokespecial; athrow -/
theorem vx_throwS {cc : ByteArray} {pc : Nat} (hexec : p.tables.exec = Jvm.exec) (hb : c.code = cc) (hl : l.stackTraces = false) {own cls text : String} {names : List String} {ik is ic mc ms sa : Nat} {A : Nat → Prop}
    (hown : s.vm.findClass own = some m.cls) (hcls : Bundle.fit cls = true) (hnames : ∀ n ∈ names, Bundle.fit n = true)
    (hk : (Cond.classLink own ik cls).before args s = true) (hini : (Cond.initialized cls).before args s = true) (hstr : vk_R own is text sa s) (hat : ∀ w ∈ vx_atS own ic cls names, w.before args s = true)
    (hgood : ∀ w ∈ Cond.classLink own ik cls :: Cond.initialized cls :: vx_atS own ic cls names, vx_ot w = true)
    (hU : vx_Zq Bundle.tN "UNASSIGNED_STACK" Bundle.steD A s s.heap) (hN : vx_Zq Bundle.tN "SUPPRESSED_SENTINEL" Bundle.listD A s s.heap) (hS : va_S A s.heap H locs) (hsize : ls.size = c.maxLocals)
    (d0 : decode cc pc = .ok (.new ik, 3)) (d3 : decode cc (pc + 3) = .ok (.dup, 1)) (d4 : decode cc (pc + 4) = .ok (.ldc is, 2)) (d6 : decode cc (pc + 6) = .ok (.invokespecial ic, 3)) (d9 : decode cc (pc + 9) = .ok (.athrow, 1))
    (hout : ∀ x ∈ c.exceptionTable.toList, covers x (pc + 9) = false)
    (hRframes : names.length + 3 < R.frames) (hRlocals : (rest.map fun v => v.category).sum + (13 * (names.length + 1) + 43) ≤ R.locals) (hRcells : cells + 1 ≤ R.cells) (hRslots : slots + 6 ≤ R.slots) (hlocks : meth.locks = false)
    (hx : ∀ t : State, s.vm.Alike t.vm → H.size ≤ t.heap.size → (∀ q : Nat, q < H.size → t.heap[q]? = H[q]?) → XC cls s t)
    (hf : ∀ z ∈ locs, free z.base) (hc : cells + 1 ≤ mc) (hs : slots + 6 ≤ ms) :
    W p l e R s m args below meth c H locs cells slots (vx_MQ below Qc XC args s mc ms free) (F0 m pc ls rest) := by
  intro T hT X
  have htr : e.platform.stackTraces = false := (show e.platform.stackTraces = l.stackTraces by rw [X.admits.platform]).trans hl
  have Y := vx_rebase X (R' := { frames := R.frames, locals := R.locals, cells := 1, slots := 6 }) (Nat.le_refl _) (Nat.le_refl _) hRcells hRslots
  obtain ⟨s', hA⟩ : ∃ z, z = (T.setVm s.vm).setFrames (.invoking m args :: below) := ⟨_, rfl⟩
  rw [← hA] at Y
  have hvm : s'.vm = s.vm := by rw [hA]; rfl
  have hhp : s'.heap = H := by rw [hA]; exact hT
  have hW0 : s.WarmedH s'.vm := by rw [hvm]; exact State.WarmedH.refl s
  have hat' : ∀ w ∈ vx_atS own ic cls names, w.before args s' = true := fun w hw => vx_ot_at hW0 hvm.symm (hgood w (List.mem_cons_of_mem _ (List.mem_cons_of_mem _ hw))) (hat w hw)
  have hk' : (Cond.classLink own ik cls).before args s' = true := vx_ot_at hW0 hvm.symm (hgood _ List.mem_cons_self) hk
  have hini' : (Cond.initialized cls).before args s' = true := vx_ot_at hW0 hvm.symm (hgood _ (List.mem_cons_of_mem _ List.mem_cons_self)) hini
  have hU' : vx_Zq Bundle.tN "UNASSIGNED_STACK" Bundle.steD A s' s'.heap := by rw [hhp]; exact vx_Zq.moved hW0.alike (hU.kept hS.2.1)
  have hN' : vx_Zq Bundle.tN "SUPPRESSED_SENTINEL" Bundle.listD A s' s'.heap := by rw [hhp]; exact vx_Zq.moved hW0.alike (hN.kept hS.2.1)
  have h : ∀ w ∈ Bundle.ownAtoms own ic cls names, w.before args s' = true := vx_own hat' (vx_isRefq hU'.1) (vx_isRefq hN'.1) hU'.2.word hN'.2.word
  have hown' : s'.vm.findClass own = some m.cls := by rw [hvm]; exact hown
  have hins : (Cond.instantiable cls 6).before args s' = true := h _ (by simp [Bundle.ownAtoms])
  obtain ⟨vm₁, cX, kX, hfX, hkX, -, -, X₁, st1⟩ := Y.newCold hexec (own := own) (C := cls) (index := ik) (n := 6) hown' hk' hins hini'
    (g := F0 m pc ls rest) rfl (by rw [hb]; exact d0) (Nat.le_refl _) (Nat.le_refl _)
  generalize hT1 : (T.setVm vm₁).pushCell { cls := cX, slots := kX.instanceTypes.map defaultValue, vm := .none } = T1 at X₁ st1
  have hcat : (Value.ref T.heap.size).category = 1 := rfl
  have hcellA : T1.heap[T.heap.size]? = some (freshCell cX kX) := by rw [← hT1]; exact State.heap_pushCell_size _ _
  have d3' : decode c.code (pc + 3) = .ok (.dup, 1) := by rw [hb]; exact d3
  have d4' : decode c.code (pc + 4) = .ok (.ldc is, 2) := by rw [hb]; exact d4
  have hstr' : vk_R own is text sa s' := vk_R.warm hW0 hstr
  obtain ⟨U, hsteps, hrun, hend, hW, hsame, ce, hce, hO⟩ := X₁.ctorThrowS hexec htr (own := own) (cls := cls) (names := names) (ic := ic) hown' hcls hnames h (fun x hx => nomatch hx) hfX hkX hcellA (by rw [hhp, hT]; exact Nat.le_refl _) (msg := .ref sa) rfl
    (g := { method := m, pc := pc + 6, locals := ls, stack := .ref sa :: .ref T.heap.size :: .ref T.heap.size :: rest, locked := none }) rfl hsize rfl rfl (rest := rest) rfl
    (by rw [hb]; exact d6) (by rw [hb]; exact d9) hout hRframes (by simp only [List.map_cons, List.sum_cons, hcat]; omega) hlocks
  obtain ⟨f1, f2⟩ := vx_frame hsame
  rw [hhp] at f1 f2
  have hWs : s.WarmedH U.vm := State.WarmedH.trans hW0 hW
  have hcl : s.vm.findClass cls = some ce.cls := by
    have h9 := hO.cls
    rw [hvm] at h9
    exact h9
  have hall : s.sameButNew ({ U with vm := s.vm } : State) locs mc ms := by
    subst hA
    obtain ⟨e1, e2⟩ := hsame
    rw [State.setFrames_setFrames] at e1
    have h2 : (T.setVm s.vm).sameButNew ({ U with vm := s.vm } : State) [] (0 + 1) (0 + 6) := ⟨e1, e2⟩
    have h3 := X.same.trans h2
    rw [List.append_nil] at h3
    exact h3.mono hc hs
  refine ⟨U, ?_, .threw T.heap.size, hrun, hend, Or.inr ⟨T.heap.size, rfl, cls, ce, locs, hx U hWs.alike f1 (fun q hq => f2 q hq (fun z hz => nomatch hz)), hce, hO.vm, hcl, hWs, hall, hf⟩⟩
  refine st1 _ ?_
  show Steps p.tables e below (T1.setTop { method := m, pc := pc + 3, locals := ls, stack := .ref T.heap.size :: rest, locked := none }) _
  jvm_step X₁.here [X₁.here.top, hexec, d3', Value.category]
  exact X₁.ldcString hexec (own := own) (text := text) (index := is) (a := sa) hown' hstr'.1 hstr'.2
    (g := { method := m, pc := pc + 4, locals := ls, stack := .ref T.heap.size :: .ref T.heap.size :: rest, locked := none }) rfl d4' _ hsteps
/-- 'throw new E("text")', the text by a wide index -/
theorem vx_throwSW {cc : ByteArray} {pc : Nat} (hexec : p.tables.exec = Jvm.exec) (hb : c.code = cc) (hl : l.stackTraces = false) {own cls text : String} {names : List String} {ik is ic mc ms sa : Nat} {A : Nat → Prop}
    (hown : s.vm.findClass own = some m.cls) (hcls : Bundle.fit cls = true) (hnames : ∀ n ∈ names, Bundle.fit n = true)
    (hk : (Cond.classLink own ik cls).before args s = true) (hini : (Cond.initialized cls).before args s = true) (hstr : vk_R own is text sa s) (hat : ∀ w ∈ vx_atS own ic cls names, w.before args s = true)
    (hgood : ∀ w ∈ Cond.classLink own ik cls :: Cond.initialized cls :: vx_atS own ic cls names, vx_ot w = true)
    (hU : vx_Zq Bundle.tN "UNASSIGNED_STACK" Bundle.steD A s s.heap) (hN : vx_Zq Bundle.tN "SUPPRESSED_SENTINEL" Bundle.listD A s s.heap) (hS : va_S A s.heap H locs) (hsize : ls.size = c.maxLocals)
    (d0 : decode cc pc = .ok (.new ik, 3)) (d3 : decode cc (pc + 3) = .ok (.dup, 1)) (d4 : decode cc (pc + 4) = .ok (.ldc_w is, 3)) (d7 : decode cc (pc + 7) = .ok (.invokespecial ic, 3)) (d10 : decode cc (pc + 10) = .ok (.athrow, 1))
    (hout : ∀ x ∈ c.exceptionTable.toList, covers x (pc + 10) = false)
    (hRframes : names.length + 3 < R.frames) (hRlocals : (rest.map fun v => v.category).sum + (13 * (names.length + 1) + 43) ≤ R.locals) (hRcells : cells + 1 ≤ R.cells) (hRslots : slots + 6 ≤ R.slots) (hlocks : meth.locks = false)
    (hx : ∀ t : State, s.vm.Alike t.vm → H.size ≤ t.heap.size → (∀ q : Nat, q < H.size → t.heap[q]? = H[q]?) → XC cls s t)
    (hf : ∀ z ∈ locs, free z.base) (hc : cells + 1 ≤ mc) (hs : slots + 6 ≤ ms) :
    W p l e R s m args below meth c H locs cells slots (vx_MQ below Qc XC args s mc ms free) (F0 m pc ls rest) := by
  intro T hT X
  have htr : e.platform.stackTraces = false := (show e.platform.stackTraces = l.stackTraces by rw [X.admits.platform]).trans hl
  have Y := vx_rebase X (R' := { frames := R.frames, locals := R.locals, cells := 1, slots := 6 }) (Nat.le_refl _) (Nat.le_refl _) hRcells hRslots
  obtain ⟨s', hA⟩ : ∃ z, z = (T.setVm s.vm).setFrames (.invoking m args :: below) := ⟨_, rfl⟩
  rw [← hA] at Y
  have hvm : s'.vm = s.vm := by rw [hA]; rfl
  have hhp : s'.heap = H := by rw [hA]; exact hT
  have hW0 : s.WarmedH s'.vm := by rw [hvm]; exact State.WarmedH.refl s
  have hat' : ∀ w ∈ vx_atS own ic cls names, w.before args s' = true := fun w hw => vx_ot_at hW0 hvm.symm (hgood w (List.mem_cons_of_mem _ (List.mem_cons_of_mem _ hw))) (hat w hw)
  have hk' : (Cond.classLink own ik cls).before args s' = true := vx_ot_at hW0 hvm.symm (hgood _ List.mem_cons_self) hk
  have hini' : (Cond.initialized cls).before args s' = true := vx_ot_at hW0 hvm.symm (hgood _ (List.mem_cons_of_mem _ List.mem_cons_self)) hini
  have hU' : vx_Zq Bundle.tN "UNASSIGNED_STACK" Bundle.steD A s' s'.heap := by rw [hhp]; exact vx_Zq.moved hW0.alike (hU.kept hS.2.1)
  have hN' : vx_Zq Bundle.tN "SUPPRESSED_SENTINEL" Bundle.listD A s' s'.heap := by rw [hhp]; exact vx_Zq.moved hW0.alike (hN.kept hS.2.1)
  have h : ∀ w ∈ Bundle.ownAtoms own ic cls names, w.before args s' = true := vx_own hat' (vx_isRefq hU'.1) (vx_isRefq hN'.1) hU'.2.word hN'.2.word
  have hown' : s'.vm.findClass own = some m.cls := by rw [hvm]; exact hown
  have hins : (Cond.instantiable cls 6).before args s' = true := h _ (by simp [Bundle.ownAtoms])
  obtain ⟨vm₁, cX, kX, hfX, hkX, -, -, X₁, st1⟩ := Y.newCold hexec (own := own) (C := cls) (index := ik) (n := 6) hown' hk' hins hini'
    (g := F0 m pc ls rest) rfl (by rw [hb]; exact d0) (Nat.le_refl _) (Nat.le_refl _)
  generalize hT1 : (T.setVm vm₁).pushCell { cls := cX, slots := kX.instanceTypes.map defaultValue, vm := .none } = T1 at X₁ st1
  have hcat : (Value.ref T.heap.size).category = 1 := rfl
  have hcellA : T1.heap[T.heap.size]? = some (freshCell cX kX) := by rw [← hT1]; exact State.heap_pushCell_size _ _
  have d3' : decode c.code (pc + 3) = .ok (.dup, 1) := by rw [hb]; exact d3
  have d4' : decode c.code (pc + 4) = .ok (.ldc_w is, 3) := by rw [hb]; exact d4
  have hstr' : vk_R own is text sa s' := vk_R.warm hW0 hstr
  obtain ⟨U, hsteps, hrun, hend, hW, hsame, ce, hce, hO⟩ := X₁.ctorThrowS hexec htr (own := own) (cls := cls) (names := names) (ic := ic) hown' hcls hnames h (fun x hx => nomatch hx) hfX hkX hcellA (by rw [hhp, hT]; exact Nat.le_refl _) (msg := .ref sa) rfl
    (g := { method := m, pc := pc + 7, locals := ls, stack := .ref sa :: .ref T.heap.size :: .ref T.heap.size :: rest, locked := none }) rfl hsize rfl rfl (rest := rest) rfl
    (by rw [hb]; exact d7) (by rw [hb]; exact d10) hout hRframes (by simp only [List.map_cons, List.sum_cons, hcat]; omega) hlocks
  obtain ⟨f1, f2⟩ := vx_frame hsame
  rw [hhp] at f1 f2
  have hWs : s.WarmedH U.vm := State.WarmedH.trans hW0 hW
  have hcl : s.vm.findClass cls = some ce.cls := by
    have h9 := hO.cls
    rw [hvm] at h9
    exact h9
  have hall : s.sameButNew ({ U with vm := s.vm } : State) locs mc ms := by
    subst hA
    obtain ⟨e1, e2⟩ := hsame
    rw [State.setFrames_setFrames] at e1
    have h2 : (T.setVm s.vm).sameButNew ({ U with vm := s.vm } : State) [] (0 + 1) (0 + 6) := ⟨e1, e2⟩
    have h3 := X.same.trans h2
    rw [List.append_nil] at h3
    exact h3.mono hc hs
  refine ⟨U, ?_, .threw T.heap.size, hrun, hend, Or.inr ⟨T.heap.size, rfl, cls, ce, locs, hx U hWs.alike f1 (fun q hq => f2 q hq (fun z hz => nomatch hz)), hce, hO.vm, hcl, hWs, hall, hf⟩⟩
  refine st1 _ ?_
  show Steps p.tables e below (T1.setTop { method := m, pc := pc + 3, locals := ls, stack := .ref T.heap.size :: rest, locked := none }) _
  jvm_step X₁.here [X₁.here.top, hexec, d3', Value.category]
  exact X₁.ldcStringW hexec (own := own) (text := text) (index := is) (a := sa) hown' hstr'.1 hstr'.2
    (g := { method := m, pc := pc + 4, locals := ls, stack := .ref T.heap.size :: .ref T.heap.size :: rest, locked := none }) rfl d4' _ hsteps
end Ends
section Bodies
variable {l : Launch}
theorem vx_ofW {y : MethodName} {ws ws' : List Cond} {rm : Room} {Pc : Array Value → State → Prop} {Qc : Array Value → State → Outcome → State → Prop} {XC : String → State → State → Prop} {mc ms : Nat} {free : Addr → Prop} {cc : ByteArray} {maxL : Nat} {ret : Option FieldType}
    (hy : plainName y.cls = true) (hw : ws = Cond.code y cc maxL ret :: ws')
    (body : ∀ p e s m args below meth c s₁, BodyLoose p l y (headSpec ws rm) cc maxL ret e s m args below meth c s₁ → c.maxLocals = maxL → (∀ x ∈ c.exceptionTable.toList, False) → Pc args s →
      W p l e (headSpec ws rm).room s m args below meth c s.heap [] 0 0 (vx_MQ below Qc XC args s mc ms free) (entryFrame m args maxL)) : vx_Met l y ws rm Pc Qc XC mc ms free := by
  refine MetFree.of_bodyS (code := cc) (maxLocals := maxL) (ret := ret) hy ?_ ?_
  · intro args s m h hn
    obtain ⟨meth, c, h1, h2, h3, h4, h5, h6, -, -⟩ := Cond.code_spec hn (atoms_spec (ws := ws) h _ (by rw [hw]; exact List.mem_cons_self))
    exact ⟨meth, c, h1, h2, h3, h4, h5, h6⟩
  · intro p e s m args below meth c s₁ B hml hP _
    have hh0 : s₁.heap = s.heap := by rw [B.state]; rfl
    have ht : ∀ x ∈ c.exceptionTable.toList, False := by
      obtain ⟨meth9, c9, h1, h2, -, -, -, -, h7, -⟩ := Cond.code_spec B.named (atoms_spec (ws := ws) B.pre _ (by rw [hw]; exact List.mem_cons_self))
      cases Option.some.inj (h1.symm.trans B.method)
      cases Option.some.inj (h2.symm.trans (Stand.of_body B).code)
      intro x hx
      rw [Array.isEmpty_iff.mp h7] at hx
      cases hx
    obtain ⟨t, a1, o, b1, b2, b3⟩ := body p e s m args below meth c s₁ B hml ht hP s₁ hh0 (Stand.of_body B)
    exact ⟨t, o, a1, b1, b2, b3⟩
/-- the table of a body with handlers -/
theorem vx_table {p : Program} {x y : MethodName} {S : Spec} {cc bytes : ByteArray} {maxL maxL' : Nat} {ret ret' : Option FieldType} {e : Env} {s s₁ : State} {m : MethodId} {args : Array Value} {below : List Frame} {meth : Method} {c : Code} {hh : List (Nat × Nat × Nat × Nat)}
    (B : BodyLoose p l y S cc maxL ret e s m args below meth c s₁) (h : (Cond.codeWith y bytes maxL' ret' hh).before args s = true) : c.exceptionTable.toList = tableOf hh := by
  obtain ⟨m9, meth9, c9, hn9, h1, h2, -, -, h6, -⟩ := Cond.codeWith_spec h
  cases Option.some.inj (hn9.symm.trans B.named)
  cases Option.some.inj (h1.symm.trans B.method)
  cases Option.some.inj (h2.symm.trans (Stand.of_body B).code)
  rw [← h6, table_eq]
end Bodies
end VXA
/-! ===== END ===== -/
/-! ===== BEGIN a static call of a method with an exception table ===== -/
section VXS
variable {p : Program} {l : Launch} {e : Env} {R : Room} {s : State} {m : MethodId} {args : Array Value} {below : List Frame} {meth : Method} {c : Code} {T : State} {H : Heap} {locs : List Loc} {cells slots : Nat}
abbrev vx_CSW (R : Room) (s : State) (args : Array Value) (own : String) (index : Nat) (y : MethodName) (bytes : ByteArray) (maxL : Nat) (ret : Option FieldType) (hh : List (Nat × Nat × Nat × Nat)) (ws : List Cond) (rm : Room) (mc ms n : Nat) : Prop :=
  (rm.cells = mc ∧ rm.slots = ms ∧ rm.frames + 1 ≤ R.frames ∧ 8 + (maxL + 11) + rm.locals ≤ R.locals ∧ (∀ w ∈ ws, ∀ (a' : Array Value) (U : State), s.WarmedH U.vm → w.before a' U = true) ∧ Cond.codeWith y bytes maxL ret hh ∈ ws) ∧
  (Cond.codeWith y bytes maxL ret hh).before args s = true ∧ (Cond.initialized y.cls).before args s = true ∧ (y.cls ≠ "java/lang/invoke/MethodHandle" ∧ y.cls ≠ "java/lang/invoke/VarHandle") ∧
  (∀ sig, parseMethodDescriptor y.desc = some sig → n = sig.parameters.length) ∧ (Cond.methodLink own index y).before args s = true ∧ (Cond.static y).before args s = true
theorem vx_cwSW {own : String} {index maxL mc ms : Nat} {y : MethodName} {bytes : ByteArray} {ret : Option FieldType} {hh : List (Nat × Nat × Nat × Nat)} {Ts ws ws' : List Cond} {rm : Room} (n : Nat) (ht : ∀ w ∈ Ts, w.before args s = true) (hT : GoodIn Ts (va_wsS own index y ws)) (hw : ws = Cond.codeWith y bytes maxL ret hh :: ws') (hrc : rm.cells = mc) (hrs : rm.slots = ms)
    (hd : y.cls ≠ "java/lang/invoke/MethodHandle" ∧ y.cls ≠ "java/lang/invoke/VarHandle" ∧ (parseMethodDescriptor y.desc).map (fun d => d.parameters.length) = some n) (hR : rm.frames + 1 ≤ R.frames ∧ 8 + (maxL + 11) + rm.locals ≤ R.locals) :
    vx_CSW R s args own index y bytes maxL ret hh ws rm mc ms n := by
  have ok : ∀ w ∈ va_wsS own index y ws, w.before args s = true := fun w h => ht w (hT w h).1
  have hG : GoodIn Ts ws := fun w h => hT w (by unfold va_wsS; exact List.mem_append_right _ h)
  have hc : Cond.codeWith y bytes maxL ret hh ∈ ws := by rw [hw]; exact List.mem_cons_self
  refine ⟨⟨hrc, hrs, hR.1, hR.2, pay_in ht hG, hc⟩, ht _ (hG _ hc).1, ok _ (by simp [va_wsS]), ⟨hd.1, hd.2.1⟩, fun sig h => ?_, ok _ (by simp [va_wsS]), ok _ (by simp [va_wsS])⟩
  have h2 := hd.2.2
  rw [h] at h2
  exact (Option.some.inj h2).symm
theorem vx_callSW (X : Stand p l e R s m args below meth c T locs cells slots) (hexec : p.tables.exec = Jvm.exec) {own : String} {index : Nat} {y : MethodName} {bytes : ByteArray} {maxL : Nat} {ret : Option FieldType} {hh : List (Nat × Nat × Nat × Nat)}
    (hown : s.vm.findClass own = some m.cls) (hlink : (Cond.methodLink own index y).before args s = true) (hstat : (Cond.static y).before args s = true) (hinit : (Cond.initialized y.cls).before args s = true)
    (hcode : (Cond.codeWith y bytes maxL ret hh).before args s = true) (hy : y.cls ≠ "java/lang/invoke/MethodHandle" ∧ y.cls ≠ "java/lang/invoke/VarHandle")
    {W9 : Nat} {Pre : Pt → Array Value → Prop} {Post : Pt → Array Value → Option Value → Pt → Prop} (hK : Back l R p e below s args y 3 W9 Pre Post)
    {g : JFrame} (hg : g.method = m) (hsize : g.locals.size = c.maxLocals) {argsL rest : List Value} (hlen : ∀ sig, parseMethodDescriptor y.desc = some sig → argsL.length = sig.parameters.length)
    (hstack : g.stack = argsL.reverse ++ rest) (hW : 2 * g.monitorRoom + (rest.map fun v => v.category).sum ≤ W9) (hdg : decode c.code g.pc = .ok (.invokestatic index, 3))
    (hpre : ∀ vm₁, s.WarmedH vm₁ → Pre ⟨T.setVm vm₁, locs, cells, slots⟩ argsL.toArray) :
    ∃ (v : Option Value) (vm₁ : Vm) (B : Pt), s.WarmedH vm₁ ∧ Stand p l e R s m args below meth c B.U B.locs B.cells B.slots ∧ Post ⟨T.setVm vm₁, locs, cells, slots⟩ argsL.toArray v B ∧
      ∀ target, Steps p.tables e below (B.U.setTop { g with pc := g.pc + 3, stack := v.toList ++ rest }) target → Steps p.tables e below (T.setTop g) target := by
  obtain ⟨mk, methM, cM, hnamed, hmethM, -, -, -, -, -, -, hsigM⟩ := Cond.codeWith_spec hcode
  have hstatic : methM.isStatic = true := Cond.static_spec hnamed hmethM hstat
  obtain ⟨kP, hkP, -⟩ := className_of_methodNamed hnamed
  have hinitP : kP.init = .initialized := Cond.initialized_spec (findClass_of_methodNamed hnamed) hkP hinit
  obtain ⟨vm₁, X₁, hstep₁⟩ := X.invokestatic hexec hown hlink hnamed hmethM hstatic hkP hinitP hy (g := g) hg (argsL := argsL) (rest := rest) (hlen _ hsigM) hstack hdg
  obtain ⟨v, B, X', hpost, hsteps⟩ := hK m meth c ⟨T.setVm vm₁, locs, cells, slots⟩ { g with stack := rest } (.invokestatic index) mk argsL.toArray X₁ hg hsize hdg hW (X₁.named hnamed) (hpre vm₁ X₁.warmed)
  exact ⟨v, vm₁, B, X₁.warmed, X', hpost, fun target h => hstep₁ _ fun acts => by rw [doInvoke_state]; exact hsteps.trans h⟩
theorem vx_runSW {y : MethodName} {bytes cc : ByteArray} {maxL nL mc ms n index : Nat} {ret : Option FieldType} {hh : List (Nat × Nat × Nat × Nat)} {ws : List Cond} {rm : Room} {Pc : Array Value → State → Prop} {Qc : Array Value → State → Outcome → State → Prop} {free : Addr → Prop} {Ts : List Cond} {own : String} {As rest : List Value} {g : JFrame}
    (S : CallFix p m c cc nL s args Ts own) (hM : Met l y ws rm Pc Qc mc ms free) (cw : vx_CSW R s args own index y bytes maxL ret hh ws rm mc ms n) (hp : PreS s H Pc As)
    (hg : g.method = m) (hn : As.length = n) (hsize : g.locals.size = nL) (hstack : g.stack = As.reverse ++ rest) (hW : 2 * g.monitorRoom + (rest.map fun v => v.category).sum ≤ 8) (hdg : decode cc g.pc = .ok (.invokestatic index, 3)) (hf : cells + mc ≤ R.cells ∧ slots + ms ≤ R.slots) :
    va_Run p l e R s m args below meth c H locs cells slots mc ms g rest (Qc As.toArray) (free) := by
  obtain ⟨⟨hrc, hrs, hfr, hlo, hws, hcw⟩, hcode, hini, hy, hlen, hl, hstt⟩ := cw
  have hK : Back l R p e below s args y 3 8 (PreOf R mc ms Pc) (PostOf Qc mc ms free) := va_backW (hh := hh) (bytes := bytes) (maxL := maxL) (ret := ret) hM hp.1 hrc hrs hfr hlo hws hcw (fun a' U hW => word_at hW (Or.inl (by first | rfl | simp [Cond.onTables, Cond.keeps, Cond.steady])) hini)
  obtain ⟨hx, hb, hml, ho, -⟩ := S
  intro T hT X
  obtain ⟨v, vm₁, ⟨U', l2, c2, s2⟩, hW₁, X', ⟨g', mk, t, L, e1, e2, hq, h1, hL, h2, h3⟩, st⟩ := vx_callSW X hx (hh := hh) (bytes := bytes) (maxL := maxL) (ret := ret) ho hl hstt hini hcode hy hK hg (hsize.trans hml.symm) (argsL := As) (rest := rest) (fun sig h => hn.trans (hlen sig h)) hstack hW (by rw [hb]; exact hdg)
    (fun vm₁ hW₁ => ⟨hf.1, hf.2, hp.2 (T.setVm vm₁) hT hW₁⟩)
  dsimp only [Pt.U, Pt.locs, Pt.cells, Pt.slots] at X' e1 e2 h1 h2 h3 st
  subst h1; subst h2; subst h3
  exact ⟨v, (T.setVm vm₁).calling g' mk As.toArray, t, U', L, hT, X', hL, e1, e2, hq, st⟩
/-- not caught here, past rows that name other classes: it goes on to the caller -/
theorem vx_outP {p : Program} {l : Launch} {e : Env} {R : Room} {s : State} {m : MethodId} {args : Array Value} {below : List Frame} {meth : Method} {c : Code} {H : Heap} {locs : List Loc} {cells slots : Nat} {free : Addr → Prop} {ls : Array Slot} {rest : List Value} {Qc : Array Value → State → Outcome → State → Prop} {XC : String → State → State → Prop}
    {pc : Nat} {own E : String} {ce : Cell} {q : Addr} {mc ms : Nat} (hown : s.vm.findClass own = some m.cls) (hlocks : meth.locks = false)
    (hpass : ∀ z ∈ c.exceptionTable.toList, covers z pc = false ∨ (z.catchType ≠ 0 ∧ ∃ nm : String, (Cond.classLink own z.catchType nm).before args s = true ∧ va_Nc E nm s)) (hcell : H[q]? = some ce) (hv : ce.vm = .none) (hcl : s.vm.findClass E = some ce.cls)
    (hx : ∀ t : State, t.heap = H → s.vm.Alike t.vm → XC E s t) (hf : ∀ z ∈ locs, free z.base) (hc : cells ≤ mc) (hs : slots ≤ ms) :
    vx_W p l e R s m args below meth c H locs cells slots (vx_MQ below Qc XC args s mc ms free) (F0 m pc ls rest) q := by
  intro T hT X
  have hpl : e.platform.magicAccessors = ({} : Platform).magicAccessors := by rw [X.admits.platform]
  obtain ⟨vm', hW', X', st⟩ := X.outThrough hlocks q (g := F0 m pc ls rest) rfl rfl rfl (cell := ce) (by rw [hT]; exact hcell) (by rw [hv]; rfl)
    (by obtain ⟨k9, h9, -⟩ := Vm.findClass_spec hcl; exact ⟨k9, h9⟩) (fun z hz => by
      rcases hpass z hz with h | ⟨hz0, nm, hl1, hn1⟩
      · exact Or.inl h
      · obtain ⟨c6, hc6, hcl6⟩ := Cond.classLink_spec hown hl1 e.platform hpl
        obtain ⟨a8, b8, h1, h2, h3⟩ := hn1
        cases Option.some.inj (h1.symm.trans hcl)
        cases Option.some.inj (h2.symm.trans hc6)
        exact Or.inr ⟨hz0, _, hcl6, h3⟩)
  obtain ⟨g₀, hfr⟩ := X'.frames_eq
  have hcell9 : ((T.setVm vm').setFrames (.throwing q :: below)).heap[q]? = some ce := by
    show T.heap[q]? = some ce
    rw [hT]; exact hcell
  have hend : Ended ((T.setVm vm').setFrames (.throwing q :: below)) below (.threw q) := State.frames_setFrames _ (State.cur_lt_of_frames hfr)
  refine ⟨(T.setVm vm').setFrames (.throwing q :: below), ?_, .threw q, X'.here.running, hend, Or.inr ⟨q, rfl, E, ce, locs, hx _ hT (X'.ends _).1.alike, hcell9, hv, hcl, (X'.ends _).1, (X'.ends _).2.mono hc hs, hf⟩⟩
  rw [X.pushThrowing_eq]
  exact st
/-- a thing of a world lies in the heap -/
theorem vx_lt {D : va_G} {cl : List vw_C} {ws : va_W} {H1 : Heap} (h : va_P D cl ws H1) {k : Nat} {q : Nat × va_E} (hk : ws[k]? = some q) : q.1 < H1.size := (h k q hk).lt
end VXS
/-! ===== END ===== -/
/-! ===== BEGIN methods with a table of their own: called by a name, returning or throwing ===== -/
section VXH
/-! vx_backW, vx_callVX, vx_callSX, vx_callVW, vx_runVW, vx_runVX, vx_runSX, vx_ofWH follow the same proofs as their sisters above (Free/Laws.lean, Shelf42/LK1.lean); vx_outP calls Shelf42/NT130.lean (outThrough). -/
section
variable {l : Launch} {R : Room} {p : Program} {e : Env} {below : List Frame} {s : State} {sargs : Array Value} {y : MethodName} {len W9 : Nat}
theorem vx_backW {ws : List Cond} {rm : Room} {Pc : Array Value → State → Prop} {Qc : Array Value → State → Outcome → State → Prop} {XC : String → State → State → Prop} {mc ms : Nat} {free : Addr → Prop} {bytes : ByteArray} {maxL : Nat} {ret : Option FieldType} {hh : List (Nat × Nat × Nat × Nat)}
    (hM : vx_Met l y ws rm Pc Qc XC mc ms free) (hblind : FrameBlind Pc) (hrc : rm.cells = mc) (hrs : rm.slots = ms)
    (hframes : rm.frames + 1 ≤ R.frames) (hlocals : W9 + (maxL + 11) + rm.locals ≤ R.locals)
    (hws : ∀ w ∈ ws, ∀ a' U, s.WarmedH U.vm → w.before a' U = true) (hcode : Cond.codeWith y bytes maxL ret hh ∈ ws) (hinit : ∀ a' U, s.WarmedH U.vm → (Cond.initialized y.cls).before a' U = true) :
    vx_Back l R p e below s sargs y len W9 (PreOf R mc ms Pc) (PostOf Qc mc ms free) (vx_Post XC mc ms free) := by
  intro m meth c A g ig mk a X hg hsize hdg hW hn hp
  have h1 : (headSpec ws rm).pre.before a A.U = true := atoms_intro fun w hw => hws w hw _ _ X.warmed
  have h2 : (Cond.codeWith y bytes maxL ret hh).before a A.U = true := hws _ hcode _ _ X.warmed
  have h3 : (Cond.initialized y.cls).before a A.U = true := hinit _ _ X.warmed
  have h4 : A.cells + (headSpec ws rm).room.cells ≤ R.cells := by rw [show (headSpec ws rm).room.cells = mc from hrc]; exact hp.1
  have h5 : A.slots + (headSpec ws rm).room.slots ≤ R.slots := by rw [show (headSpec ws rm).room.slots = ms from hrs]; exact hp.2.1
  have hPc : Pc a (A.U.calling g mk a) := hblind _ _ _ _ hp.2.2
  obtain ⟨U, Ls, c0, s0⟩ := A
  dsimp only [Pt.U, Pt.locs, Pt.cells, Pt.slots] at h1 h2 h3 h4 h5 X hn hPc ⊢
  obtain ⟨m9, methY, cY, hn9, hmY, hcY, -, hlY, -⟩ := Cond.codeWith_spec h2
  cases Option.some.inj (hn9.symm.trans hn)
  obtain ⟨kY, hkY, -⟩ := className_of_methodNamed hn
  have hinitY : kY.init = .initialized := Cond.initialized_spec (findClass_of_methodNamed hn) hkY h3
  have h : At U g.method c below := by rw [hg]; exact X.here
  have hlocals9 : W9 + (maxL + 11) + (headSpec ws rm).room.locals ≤ R.locals := hlocals
  have happ : (headSpec ws rm).appliesLoose y e.platform (U.calling g mk a) = true :=
    Spec.appliesLoose_calling (g := g) h hdg hn hkY hinitY
      (X.room_calling (g := g) (R' := (headSpec ws rm).room) hsize hmY hcY hframes (by rw [hlY]; omega) h4 h5) h1
  obtain ⟨mid, hmid⟩ := h.above
  have hfr : (U.setTop g).frames = (.java g :: mid) ++ below := by rw [State.frames_setTop' g h.top, hmid]; rfl
  obtain ⟨o, s₂, hsteps, -, hend, hq⟩ := Steps.callFree hM p X.admits X.cas X.clock (acts := []) hfr happ hPc trivial
  have hq' : vx_Q Qc XC mc ms free a (U.calling g mk a) o s₂ := hq
  rw [State.frames_setTop' g h.top] at hend
  obtain ⟨g₀, hg0⟩ := Option.isSome_iff_exists.mp h.top
  obtain ⟨r, hr⟩ := State.topJava?_eq_some.mp hg0
  have hr' : (({ U with heap := s₂.heap, slotsUsed := s₂.slotsUsed } : State).setVm s₂.vm).frames = .java g₀ :: r := hr
  rcases hq' with ⟨hqc, L, hfe, hL⟩ | ⟨q, rfl, E, ce, L, hx, hce, hcv, hcl, hW₂, hsm, hL⟩
  · obtain ⟨⟨v, rfl⟩, hW₂, e2, q2, q3, q4, q5, q6⟩ := id hfe
    have e3 : s₂ = ({ (U.calling g mk a).setFrames s₂.frames with heap := s₂.heap, slotsUsed := s₂.slotsUsed } : State).setVm s₂.vm := by
      have : s₂ = ({ s₂ with vm := (U.calling g mk a).vm } : State).setVm s₂.vm := rfl
      rw [e2] at this
      exact this
    obtain ⟨c₂, i₂, len₂, hc₂, hd₂, hf₂⟩ := hend
    have hW' : U.WarmedH s₂.vm := hW₂
    have hcc : c₂ = c := by
      have h1 : s₂.code? g.method = U.code? g.method := by
        rw [State.code?_eq, State.code?_eq, hW'.alike.method?]
      exact Option.some.inj (hc₂.symm.trans (h1.trans h.code))
    subst hcc
    have hlen : len₂ = len := by rw [hdg] at hd₂; cases hd₂; rfl
    subst hlen
    have hs₂ : s₂ = (({ U with heap := s₂.heap, slotsUsed := s₂.slotsUsed } : State).setVm s₂.vm).setTop { g with pc := g.pc + len₂, stack := v.toList ++ g.stack } := by
      refine e3.trans ?_
      rw [hf₂, State.calling_eq h.top, State.setFrames_setFrames, State.setTop_of_frames _ hr', hr]
      rfl
    have hsame : U.sameButNew ({ U with heap := s₂.heap, slotsUsed := s₂.slotsUsed } : State) L mc ms := by
      refine ⟨?_, q2, q3, q4, q5, q6⟩
      obtain ⟨t, ht, -⟩ := State.frames_cons hr
      show ({ U with heap := s₂.heap, slotsUsed := s₂.slotsUsed } : State) = { U.setFrames U.frames with heap := s₂.heap, slotsUsed := s₂.slotsUsed }
      rw [State.setFrames_self ht]
    subst hg
    refine Or.inl ⟨v, ⟨(({ U with heap := s₂.heap, slotsUsed := s₂.slotsUsed } : State).setVm s₂.vm), Ls ++ L, c0 + mc, s0 + ms⟩,
      ⟨X.admits, X.cas, X.clock, X.frames, X.room, X.hears, X.method, X.code, (X.here.setHeapUsed s₂.heap s₂.slotsUsed).setVm hW'.alike, X.tail, State.WarmedH.trans X.warmed hW', X.limits, X.bytes, X.same.trans (hsame.setVm s.vm)⟩,
      ⟨g, mk, s₂, L, rfl, rfl, hqc, rfl, hL, rfl, rfl⟩, ?_⟩
    show Steps p.tables e below _ ((({ U with heap := s₂.heap, slotsUsed := s₂.slotsUsed } : State).setVm s₂.vm).setTop { g with pc := g.pc + len₂, stack := v.toList ++ g.stack })
    rw [← hs₂]
    exact hsteps
  · obtain ⟨e2, q2, q3, q4, q5, q6⟩ := id hsm
    have e3 : s₂ = ({ (U.calling g mk a).setFrames s₂.frames with heap := s₂.heap, slotsUsed := s₂.slotsUsed } : State).setVm s₂.vm := by
      have : s₂ = ({ s₂ with vm := (U.calling g mk a).vm } : State).setVm s₂.vm := rfl
      rw [e2] at this
      exact this
    have hf₂ : s₂.frames = .throwing q :: .java g :: U.frames.tail := hend
    have hW' : U.WarmedH s₂.vm := hW₂
    have hs₂ : s₂ = ((({ U with heap := s₂.heap, slotsUsed := s₂.slotsUsed } : State).setVm s₂.vm).setTop g).pushFrame (.throwing q) := by
      refine e3.trans ?_
      rw [hf₂, State.calling_eq h.top, State.setFrames_setFrames, State.pushFrame, State.frames_setTop _ hr', State.setTop_of_frames _ hr', State.setFrames_setFrames, hr]
      rfl
    have hsame : U.sameButNew ({ U with heap := s₂.heap, slotsUsed := s₂.slotsUsed } : State) L mc ms := by
      refine ⟨?_, q2, q3, q4, q5, q6⟩
      obtain ⟨t, ht, -⟩ := State.frames_cons hr
      show ({ U with heap := s₂.heap, slotsUsed := s₂.slotsUsed } : State) = { U.setFrames U.frames with heap := s₂.heap, slotsUsed := s₂.slotsUsed }
      rw [State.setFrames_self ht]
    subst hg
    refine Or.inr ⟨q, ⟨(({ U with heap := s₂.heap, slotsUsed := s₂.slotsUsed } : State).setVm s₂.vm), Ls ++ L, c0 + mc, s0 + ms⟩,
      ⟨X.admits, X.cas, X.clock, X.frames, X.room, X.hears, X.method, X.code, (X.here.setHeapUsed s₂.heap s₂.slotsUsed).setVm hW'.alike, X.tail, State.WarmedH.trans X.warmed hW', X.limits, X.bytes, X.same.trans (hsame.setVm s.vm)⟩,
      ⟨g, mk, s₂, L, E, ce, rfl, rfl, hx, hce, hcv, hcl, rfl, hL, rfl, rfl⟩, ?_⟩
    show Steps p.tables e below _ (((({ U with heap := s₂.heap, slotsUsed := s₂.slotsUsed } : State).setVm s₂.vm).setTop g).pushFrame (.throwing q))
    rw [← hs₂]
    exact hsteps
end
variable {p : Program} {l : Launch} {e : Env} {R : Room} {s : State} {m : MethodId} {args : Array Value} {below : List Frame} {meth : Method} {c : Code} {T : State} {H : Heap} {locs : List Loc} {cells slots : Nat}
theorem vx_callVX (X : Stand p l e R s m args below meth c T locs cells slots) (hexec : p.tables.exec = Jvm.exec) {own C : String} {index : Nat} {y : MethodName} {bytes : ByteArray} {maxL : Nat} {ret : Option FieldType} {hh : List (Nat × Nat × Nat × Nat)}
    (hown : s.vm.findClass own = some m.cls) (hlink : (Cond.methodLink own index y).before args s = true) (hinst : (Cond.instanceMethod y).before args s = true) (hsel : (Cond.selects C y y).before args s = true)
    (hcode : (Cond.codeWith y bytes maxL ret hh).before args s = true) (hy : y.cls ≠ "java/lang/invoke/MethodHandle" ∧ y.cls ≠ "java/lang/invoke/VarHandle")
    {W9 : Nat} {Pre : Pt → Array Value → Prop} {Post : Pt → Array Value → Option Value → Pt → Prop} {PostX : Pt → Array Value → Addr → Pt → Prop} (hK : vx_Back l R p e below s args y 3 W9 Pre Post PostX)
    {b : Addr} {cellB : Cell} (hcell : T.heap[b]? = some cellB) (hobj : cellB.vm.isStatics = false) (hcls : s.vm.findClass C = some cellB.cls)
    {g : JFrame} (hg : g.method = m) (hsize : g.locals.size = c.maxLocals) {argsL rest : List Value} (hlen : ∀ sig, parseMethodDescriptor y.desc = some sig → argsL.length = sig.parameters.length)
    (hstack : g.stack = argsL.reverse ++ .ref b :: rest) (hW : 2 * g.monitorRoom + (rest.map fun v => v.category).sum ≤ W9) (hdg : decode c.code g.pc = .ok (.invokevirtual index, 3))
    (hpre : ∀ vm₁, s.WarmedH vm₁ → Pre ⟨T.setVm vm₁, locs, cells, slots⟩ (Value.ref b :: argsL).toArray) :
    (∃ (v : Option Value) (vm₁ : Vm) (B : Pt), s.WarmedH vm₁ ∧ Stand p l e R s m args below meth c B.U B.locs B.cells B.slots ∧ Post ⟨T.setVm vm₁, locs, cells, slots⟩ (Value.ref b :: argsL).toArray v B ∧
      ∀ target, Steps p.tables e below (B.U.setTop { g with pc := g.pc + 3, stack := v.toList ++ rest }) target → Steps p.tables e below (T.setTop g) target) ∨
    (∃ (q : Addr) (vm₁ : Vm) (B : Pt), s.WarmedH vm₁ ∧ Stand p l e R s m args below meth c B.U B.locs B.cells B.slots ∧ PostX ⟨T.setVm vm₁, locs, cells, slots⟩ (Value.ref b :: argsL).toArray q B ∧
      Steps p.tables e below (T.setTop g) ((B.U.setTop { g with stack := rest }).pushFrame (.throwing q))) := by
  obtain ⟨mk, methM, hnamed, hmethM, hstM, habM⟩ := Cond.instanceMethod_spec hinst
  obtain ⟨m8, methM', cM, hn8, hmethM', -, -, -, -, -, -, hsigM⟩ := Cond.codeWith_spec hcode
  cases Option.some.inj (hn8.symm.trans hnamed)
  cases hmethM.symm.trans hmethM'
  obtain ⟨c2, r2, m2, q1, q2, q3, q4, kP, hkP, hkPi⟩ := Cond.selects_spec hsel
  cases hcls.symm.trans q1
  cases (State.methodFound?_of_named hnamed hy).symm.trans q2
  cases hnamed.symm.trans q3
  have hselP : selectMethod e.platform s.vm cellB.cls mk = .method mk := by rw [Launch.admits_selectMethod X.admits]; exact q4
  obtain ⟨vm₁, X₁, hstep₁⟩ := X.invokevirtual hexec hown hlink hnamed hmethM hstM hkP hkPi hy (a := b) (cell := cellB) hcell
    (fun z h => by rw [h] at hobj; cases hobj) hselP hmethM habM hkP hkPi (g := g) hg (argsL := argsL) (rest := rest) (hlen _ hsigM) hstack hdg
  rcases hK m meth c ⟨T.setVm vm₁, locs, cells, slots⟩ { g with stack := rest } (.invokevirtual index) mk (Value.ref b :: argsL).toArray X₁ hg hsize hdg hW (X₁.named hnamed) (hpre vm₁ X₁.warmed) with ⟨v, B, X', hpost, hsteps⟩ | ⟨q, B, X', hpost, hsteps⟩
  · exact Or.inl ⟨v, vm₁, B, X₁.warmed, X', hpost, fun target h => hstep₁ _ fun acts => by rw [doInvoke_state]; exact hsteps.trans h⟩
  · exact Or.inr ⟨q, vm₁, B, X₁.warmed, X', hpost, hstep₁ _ fun acts => by rw [doInvoke_state]; exact hsteps⟩
theorem vx_callSX (X : Stand p l e R s m args below meth c T locs cells slots) (hexec : p.tables.exec = Jvm.exec) {own : String} {index : Nat} {y : MethodName} {bytes : ByteArray} {maxL : Nat} {ret : Option FieldType} {hh : List (Nat × Nat × Nat × Nat)}
    (hown : s.vm.findClass own = some m.cls) (hlink : (Cond.methodLink own index y).before args s = true) (hstat : (Cond.static y).before args s = true) (hinit : (Cond.initialized y.cls).before args s = true)
    (hcode : (Cond.codeWith y bytes maxL ret hh).before args s = true) (hy : y.cls ≠ "java/lang/invoke/MethodHandle" ∧ y.cls ≠ "java/lang/invoke/VarHandle")
    {W9 : Nat} {Pre : Pt → Array Value → Prop} {Post : Pt → Array Value → Option Value → Pt → Prop} {PostX : Pt → Array Value → Addr → Pt → Prop} (hK : vx_Back l R p e below s args y 3 W9 Pre Post PostX)
    {g : JFrame} (hg : g.method = m) (hsize : g.locals.size = c.maxLocals) {argsL rest : List Value} (hlen : ∀ sig, parseMethodDescriptor y.desc = some sig → argsL.length = sig.parameters.length)
    (hstack : g.stack = argsL.reverse ++ rest) (hW : 2 * g.monitorRoom + (rest.map fun v => v.category).sum ≤ W9) (hdg : decode c.code g.pc = .ok (.invokestatic index, 3))
    (hpre : ∀ vm₁, s.WarmedH vm₁ → Pre ⟨T.setVm vm₁, locs, cells, slots⟩ argsL.toArray) :
    (∃ (v : Option Value) (vm₁ : Vm) (B : Pt), s.WarmedH vm₁ ∧ Stand p l e R s m args below meth c B.U B.locs B.cells B.slots ∧ Post ⟨T.setVm vm₁, locs, cells, slots⟩ argsL.toArray v B ∧
      ∀ target, Steps p.tables e below (B.U.setTop { g with pc := g.pc + 3, stack := v.toList ++ rest }) target → Steps p.tables e below (T.setTop g) target) ∨
    (∃ (q : Addr) (vm₁ : Vm) (B : Pt), s.WarmedH vm₁ ∧ Stand p l e R s m args below meth c B.U B.locs B.cells B.slots ∧ PostX ⟨T.setVm vm₁, locs, cells, slots⟩ argsL.toArray q B ∧
      Steps p.tables e below (T.setTop g) ((B.U.setTop { g with stack := rest }).pushFrame (.throwing q))) := by
  obtain ⟨mk, methM, cM, hnamed, hmethM, -, -, -, -, -, -, hsigM⟩ := Cond.codeWith_spec hcode
  have hstatic : methM.isStatic = true := Cond.static_spec hnamed hmethM hstat
  obtain ⟨kP, hkP, -⟩ := className_of_methodNamed hnamed
  have hinitP : kP.init = .initialized := Cond.initialized_spec (findClass_of_methodNamed hnamed) hkP hinit
  obtain ⟨vm₁, X₁, hstep₁⟩ := X.invokestatic hexec hown hlink hnamed hmethM hstatic hkP hinitP hy (g := g) hg (argsL := argsL) (rest := rest) (hlen _ hsigM) hstack hdg
  rcases hK m meth c ⟨T.setVm vm₁, locs, cells, slots⟩ { g with stack := rest } (.invokestatic index) mk argsL.toArray X₁ hg hsize hdg hW (X₁.named hnamed) (hpre vm₁ X₁.warmed) with ⟨v, B, X', hpost, hsteps⟩ | ⟨q, B, X', hpost, hsteps⟩
  · exact Or.inl ⟨v, vm₁, B, X₁.warmed, X', hpost, fun target h => hstep₁ _ fun acts => by rw [doInvoke_state]; exact hsteps.trans h⟩
  · exact Or.inr ⟨q, vm₁, B, X₁.warmed, X', hpost, hstep₁ _ fun acts => by rw [doInvoke_state]; exact hsteps⟩
theorem vx_callVW (X : Stand p l e R s m args below meth c T locs cells slots) (hexec : p.tables.exec = Jvm.exec) {own C : String} {index : Nat} {y : MethodName} {bytes : ByteArray} {maxL : Nat} {ret : Option FieldType} {hh : List (Nat × Nat × Nat × Nat)}
    (hown : s.vm.findClass own = some m.cls) (hlink : (Cond.methodLink own index y).before args s = true) (hinst : (Cond.instanceMethod y).before args s = true) (hsel : (Cond.selects C y y).before args s = true)
    (hcode : (Cond.codeWith y bytes maxL ret hh).before args s = true) (hy : y.cls ≠ "java/lang/invoke/MethodHandle" ∧ y.cls ≠ "java/lang/invoke/VarHandle")
    {W9 : Nat} {Pre : Pt → Array Value → Prop} {Post : Pt → Array Value → Option Value → Pt → Prop} (hK : Back l R p e below s args y 3 W9 Pre Post)
    {b : Addr} {cellB : Cell} (hcell : T.heap[b]? = some cellB) (hobj : cellB.vm.isStatics = false) (hcls : s.vm.findClass C = some cellB.cls)
    {g : JFrame} (hg : g.method = m) (hsize : g.locals.size = c.maxLocals) {argsL rest : List Value} (hlen : ∀ sig, parseMethodDescriptor y.desc = some sig → argsL.length = sig.parameters.length)
    (hstack : g.stack = argsL.reverse ++ .ref b :: rest) (hW : 2 * g.monitorRoom + (rest.map fun v => v.category).sum ≤ W9) (hdg : decode c.code g.pc = .ok (.invokevirtual index, 3))
    (hpre : ∀ vm₁, s.WarmedH vm₁ → Pre ⟨T.setVm vm₁, locs, cells, slots⟩ (Value.ref b :: argsL).toArray) :
    ∃ (v : Option Value) (vm₁ : Vm) (B : Pt), s.WarmedH vm₁ ∧ Stand p l e R s m args below meth c B.U B.locs B.cells B.slots ∧ Post ⟨T.setVm vm₁, locs, cells, slots⟩ (Value.ref b :: argsL).toArray v B ∧
      ∀ target, Steps p.tables e below (B.U.setTop { g with pc := g.pc + 3, stack := v.toList ++ rest }) target → Steps p.tables e below (T.setTop g) target := by
  obtain ⟨mk, methM, hnamed, hmethM, hstM, habM⟩ := Cond.instanceMethod_spec hinst
  obtain ⟨m8, methM', cM, hn8, hmethM', -, -, -, -, -, -, hsigM⟩ := Cond.codeWith_spec hcode
  cases Option.some.inj (hn8.symm.trans hnamed)
  cases hmethM.symm.trans hmethM'
  obtain ⟨c2, r2, m2, q1, q2, q3, q4, kP, hkP, hkPi⟩ := Cond.selects_spec hsel
  cases hcls.symm.trans q1
  cases (State.methodFound?_of_named hnamed hy).symm.trans q2
  cases hnamed.symm.trans q3
  have hselP : selectMethod e.platform s.vm cellB.cls mk = .method mk := by rw [Launch.admits_selectMethod X.admits]; exact q4
  obtain ⟨vm₁, X₁, hstep₁⟩ := X.invokevirtual hexec hown hlink hnamed hmethM hstM hkP hkPi hy (a := b) (cell := cellB) hcell
    (fun z h => by rw [h] at hobj; cases hobj) hselP hmethM habM hkP hkPi (g := g) hg (argsL := argsL) (rest := rest) (hlen _ hsigM) hstack hdg
  obtain ⟨v, B, X', hpost, hsteps⟩ := hK m meth c ⟨T.setVm vm₁, locs, cells, slots⟩ { g with stack := rest } (.invokevirtual index) mk (Value.ref b :: argsL).toArray X₁ hg hsize hdg hW (X₁.named hnamed) (hpre vm₁ X₁.warmed)
  exact ⟨v, vm₁, B, X₁.warmed, X', hpost, fun target h => hstep₁ _ fun acts => by rw [doInvoke_state]; exact hsteps.trans h⟩
abbrev vx_CVW (R : Room) (s : State) (args : Array Value) (own C : String) (index : Nat) (y : MethodName) (bytes : ByteArray) (maxL : Nat) (ret : Option FieldType) (hh : List (Nat × Nat × Nat × Nat)) (ws : List Cond) (rm : Room) (mc ms n : Nat) : Prop :=
  (rm.cells = mc ∧ rm.slots = ms ∧ rm.frames + 1 ≤ R.frames ∧ 8 + (maxL + 11) + rm.locals ≤ R.locals ∧ (∀ w ∈ ws, ∀ (a' : Array Value) (U : State), s.WarmedH U.vm → w.before a' U = true) ∧ Cond.codeWith y bytes maxL ret hh ∈ ws) ∧
  (Cond.codeWith y bytes maxL ret hh).before args s = true ∧ (Cond.initialized y.cls).before args s = true ∧ (y.cls ≠ "java/lang/invoke/MethodHandle" ∧ y.cls ≠ "java/lang/invoke/VarHandle") ∧
  (∀ sig, parseMethodDescriptor y.desc = some sig → n = sig.parameters.length) ∧ (Cond.methodLink own index y).before args s = true ∧ (Cond.instanceMethod y).before args s = true ∧ (Cond.selects C y y).before args s = true
theorem vx_cwVW {own C : String} {index maxL mc ms : Nat} {y : MethodName} {bytes : ByteArray} {ret : Option FieldType} {hh : List (Nat × Nat × Nat × Nat)} {Ts ws ws' : List Cond} {rm : Room} (n : Nat) (ht : ∀ w ∈ Ts, w.before args s = true) (hT : GoodIn Ts (wsV own index C y ws)) (hw : ws = Cond.codeWith y bytes maxL ret hh :: ws') (hrc : rm.cells = mc) (hrs : rm.slots = ms)
    (hd : y.cls = C ∧ y.cls ≠ "java/lang/invoke/MethodHandle" ∧ y.cls ≠ "java/lang/invoke/VarHandle" ∧ (parseMethodDescriptor y.desc).map (fun d => d.parameters.length) = some n) (hR : rm.frames + 1 ≤ R.frames ∧ 8 + (maxL + 11) + rm.locals ≤ R.locals) :
    vx_CVW R s args own C index y bytes maxL ret hh ws rm mc ms n := by
  obtain ⟨hC, hd⟩ := hd
  subst hC
  have ok : ∀ w ∈ wsV own index y.cls y ws, w.before args s = true := fun w h => ht w (hT w h).1
  have hG : GoodIn Ts ws := fun w h => hT w (by unfold wsV; exact List.mem_append_right _ h)
  have hc : Cond.codeWith y bytes maxL ret hh ∈ ws := by rw [hw]; exact List.mem_cons_self
  refine ⟨⟨hrc, hrs, hR.1, hR.2, pay_in ht hG, hc⟩, ht _ (hG _ hc).1, ok _ (by simp [wsV]), ⟨hd.1, hd.2.1⟩, fun sig h => ?_, ok _ (by simp [wsV]), ok _ (by simp [wsV]), ok _ (by simp [wsV])⟩
  have h2 := hd.2.2
  rw [h] at h2
  exact (Option.some.inj h2).symm
theorem vx_runVW {y : MethodName} {bytes cc : ByteArray} {maxL nL mc ms n index : Nat} {ret : Option FieldType} {hh : List (Nat × Nat × Nat × Nat)} {ws : List Cond} {rm : Room} {Pc : Array Value → State → Prop} {Qc : Array Value → State → Outcome → State → Prop} {free : Addr → Prop} {Ts : List Cond} {own C : String} {b : Addr} {As rest : List Value} {g : JFrame}
    (S : CallFix p m c cc nL s args Ts own) (hM : Met l y ws rm Pc Qc mc ms free) (cw : vx_CVW R s args own C index y bytes maxL ret hh ws rm mc ms n) (hp : PreV s H C b Pc As)
    (hg : g.method = m) (hn : As.length = n) (hsize : g.locals.size = nL) (hstack : g.stack = As.reverse ++ .ref b :: rest) (hW : 2 * g.monitorRoom + (rest.map fun v => v.category).sum ≤ 8) (hdg : decode cc g.pc = .ok (.invokevirtual index, 3)) (hf : cells + mc ≤ R.cells ∧ slots + ms ≤ R.slots) :
    va_Run p l e R s m args below meth c H locs cells slots mc ms g rest (Qc (Value.ref b :: As).toArray) free := by
  obtain ⟨⟨hrc, hrs, hfr, hlo, hws, hcw⟩, hcode, hini, hy, hlen, hl, hin, hse⟩ := cw
  have hK : Back l R p e below s args y 3 8 (PreOf R mc ms Pc) (PostOf Qc mc ms free) := va_backW (hh := hh) (bytes := bytes) (maxL := maxL) (ret := ret) hM hp.1 hrc hrs hfr hlo hws hcw (fun a' U hW => word_at hW (Or.inl (by first | rfl | simp [Cond.onTables, Cond.keeps, Cond.steady])) hini)
  obtain ⟨hx, hb, hml, ho, -⟩ := S
  obtain ⟨-, ⟨cellB, hcB, hoB, hclB⟩, hPc⟩ := hp
  intro T hT X
  obtain ⟨v, vm₁, ⟨U', l2, c2, s2⟩, hW₁, X', ⟨g', mk, t, L, e1, e2, hq, h1, hL, h2, h3⟩, st⟩ := vx_callVW X hx (C := C) (hh := hh) (bytes := bytes) (maxL := maxL) (ret := ret) ho hl hin hse hcode hy hK (by rw [hT]; exact hcB) hoB hclB hg (hsize.trans hml.symm) (argsL := As) (rest := rest) (fun sig h => hn.trans (hlen sig h)) hstack hW (by rw [hb]; exact hdg)
    (fun vm₁ hW₁ => ⟨hf.1, hf.2, hPc (T.setVm vm₁) hT hW₁⟩)
  dsimp only [Pt.U, Pt.locs, Pt.cells, Pt.slots] at X' e1 e2 h1 h2 h3 st
  subst h1; subst h2; subst h3
  exact ⟨v, (T.setVm vm₁).calling g' mk (Value.ref b :: As).toArray, t, U', L, hT, X', hL, e1, e2, hq, st⟩
section
variable {y : MethodName} {bytes cc : ByteArray} {maxL nL mc ms n index : Nat} {ret : Option FieldType} {ws : List Cond} {rm : Room} {Pc : Array Value → State → Prop} {Qc : Array Value → State → Outcome → State → Prop} {XC : String → State → State → Prop} {free : Addr → Prop} {Ts : List Cond} {own C : String} {b : Addr} {As rest : List Value} {g : JFrame}
theorem vx_runVX {hh : List (Nat × Nat × Nat × Nat)} (S : CallFix p m c cc nL s args Ts own) (hM : vx_Met l y ws rm Pc Qc XC mc ms free) (cw : vx_CVW R s args own C index y bytes maxL ret hh ws rm mc ms n) (hp : PreV s H C b Pc As)
    (hg : g.method = m) (hn : As.length = n) (hsize : g.locals.size = nL) (hstack : g.stack = As.reverse ++ .ref b :: rest) (hW : 2 * g.monitorRoom + (rest.map fun v => v.category).sum ≤ 8) (hdg : decode cc g.pc = .ok (.invokevirtual index, 3)) (hf : cells + mc ≤ R.cells ∧ slots + ms ≤ R.slots) :
    vx_Run p l e R s m args below meth c H locs cells slots mc ms g rest (Qc (Value.ref b :: As).toArray) XC free := by
  obtain ⟨⟨hrc, hrs, hfr, hlo, hws, hcw⟩, hcode, hini, hy, hlen, hl, hin, hse⟩ := cw
  have hK : vx_Back l R p e below s args y 3 8 (PreOf R mc ms Pc) (PostOf Qc mc ms free) (vx_Post XC mc ms free) := vx_backW (hh := hh) (bytes := bytes) (maxL := maxL) (ret := ret) hM hp.1 hrc hrs hfr hlo hws hcw (fun a' U hW => word_at hW (Or.inl (by first | rfl | simp [Cond.onTables, Cond.keeps, Cond.steady])) hini)
  obtain ⟨hx, hb, hml, ho, -⟩ := S
  obtain ⟨-, ⟨cellB, hcB, hoB, hclB⟩, hPc⟩ := hp
  intro T hT X
  rcases vx_callVX X hx (C := C) (hh := hh) (bytes := bytes) (maxL := maxL) (ret := ret) ho hl hin hse hcode hy hK (by rw [hT]; exact hcB) hoB hclB hg (hsize.trans hml.symm) (argsL := As) (rest := rest) (fun sig h => hn.trans (hlen sig h)) hstack hW (by rw [hb]; exact hdg)
    (fun vm₁ hW₁ => ⟨hf.1, hf.2, hPc (T.setVm vm₁) hT hW₁⟩) with ⟨v, vm₁, ⟨U', l2, c2, s2⟩, hW₁, X', ⟨g', mk, t, L, e1, e2, hq, h1, hL, h2, h3⟩, st⟩ | ⟨q, vm₁, ⟨U', l2, c2, s2⟩, hW₁, X', ⟨g', mk, t, L, E, ce, e1, e2, hq, hce, hcv, hcl, h1, hL, h2, h3⟩, st⟩
  · dsimp only [Pt.U, Pt.locs, Pt.cells, Pt.slots] at X' e1 e2 h1 h2 h3 st
    subst h1; subst h2; subst h3
    exact Or.inl ⟨v, (T.setVm vm₁).calling g' mk (Value.ref b :: As).toArray, t, U', L, hT, X', hL, e1, e2, hq, st⟩
  · dsimp only [Pt.U, Pt.locs, Pt.cells, Pt.slots] at X' e1 e2 h1 h2 h3 st hcl
    subst h1; subst h2; subst h3
    exact Or.inr ⟨q, (T.setVm vm₁).calling g' mk (Value.ref b :: As).toArray, t, U', L, E, ce, hT, X', hL, e1, e2, hq, hce, hcv, vx_cls hW₁ hcl, st⟩
theorem vx_runSX {hh : List (Nat × Nat × Nat × Nat)} (S : CallFix p m c cc nL s args Ts own) (hM : vx_Met l y ws rm Pc Qc XC mc ms free) (cw : vx_CSW R s args own index y bytes maxL ret hh ws rm mc ms n) (hp : PreS s H Pc As)
    (hg : g.method = m) (hn : As.length = n) (hsize : g.locals.size = nL) (hstack : g.stack = As.reverse ++ rest) (hW : 2 * g.monitorRoom + (rest.map fun v => v.category).sum ≤ 8) (hdg : decode cc g.pc = .ok (.invokestatic index, 3)) (hf : cells + mc ≤ R.cells ∧ slots + ms ≤ R.slots) :
    vx_Run p l e R s m args below meth c H locs cells slots mc ms g rest (Qc As.toArray) XC free := by
  obtain ⟨⟨hrc, hrs, hfr, hlo, hws, hcw⟩, hcode, hini, hy, hlen, hl, hstt⟩ := cw
  have hK : vx_Back l R p e below s args y 3 8 (PreOf R mc ms Pc) (PostOf Qc mc ms free) (vx_Post XC mc ms free) := vx_backW (hh := hh) (bytes := bytes) (maxL := maxL) (ret := ret) hM hp.1 hrc hrs hfr hlo hws hcw (fun a' U hW => word_at hW (Or.inl (by first | rfl | simp [Cond.onTables, Cond.keeps, Cond.steady])) hini)
  obtain ⟨hx, hb, hml, ho, -⟩ := S
  intro T hT X
  rcases vx_callSX X hx (hh := hh) (bytes := bytes) (maxL := maxL) (ret := ret) ho hl hstt hini hcode hy hK hg (hsize.trans hml.symm) (argsL := As) (rest := rest) (fun sig h => hn.trans (hlen sig h)) hstack hW (by rw [hb]; exact hdg)
    (fun vm₁ hW₁ => ⟨hf.1, hf.2, hp.2 (T.setVm vm₁) hT hW₁⟩) with ⟨v, vm₁, ⟨U', l2, c2, s2⟩, hW₁, X', ⟨g', mk, t, L, e1, e2, hq, h1, hL, h2, h3⟩, st⟩ | ⟨q, vm₁, ⟨U', l2, c2, s2⟩, hW₁, X', ⟨g', mk, t, L, E, ce, e1, e2, hq, hce, hcv, hcl, h1, hL, h2, h3⟩, st⟩
  · dsimp only [Pt.U, Pt.locs, Pt.cells, Pt.slots] at X' e1 e2 h1 h2 h3 st
    subst h1; subst h2; subst h3
    exact Or.inl ⟨v, (T.setVm vm₁).calling g' mk As.toArray, t, U', L, hT, X', hL, e1, e2, hq, st⟩
  · dsimp only [Pt.U, Pt.locs, Pt.cells, Pt.slots] at X' e1 e2 h1 h2 h3 st hcl
    subst h1; subst h2; subst h3
    exact Or.inr ⟨q, (T.setVm vm₁).calling g' mk As.toArray, t, U', L, E, ce, hT, X', hL, e1, e2, hq, hce, hcv, vx_cls hW₁ hcl, st⟩
end
end VXH
theorem vx_ofWH {l : Launch} {y : MethodName} {ws ws' : List Cond} {rm : Room} {Pc : Array Value → State → Prop} {Qc : Array Value → State → Outcome → State → Prop} {XC : String → State → State → Prop} {mc ms : Nat} {free : Addr → Prop} {cc : ByteArray} {maxL : Nat} {ret : Option FieldType} {hh : List (Nat × Nat × Nat × Nat)}
    (hy : plainName y.cls = true) (hw : ws = Cond.codeWith y cc maxL ret hh :: ws')
    (body : ∀ p e s m args below meth c s₁, BodyLoose p l y (headSpec ws rm) cc maxL ret e s m args below meth c s₁ → c.maxLocals = maxL → Pc args s →
      W p l e (headSpec ws rm).room s m args below meth c s.heap [] 0 0 (vx_MQ below Qc XC args s mc ms free) (entryFrame m args maxL)) : vx_Met l y ws rm Pc Qc XC mc ms free := by
  refine MetFree.of_bodyS (code := cc) (maxLocals := maxL) (ret := ret) hy ?_ ?_
  · intro args s m h hn
    obtain ⟨m9, meth, c, hn9, h1, h2, h3, h4, -, h5, h6, -⟩ := Cond.codeWith_spec (atoms_spec (ws := ws) h _ (by rw [hw]; exact List.mem_cons_self))
    cases hn.symm.trans hn9
    exact ⟨meth, c, h1, h2, h3, h4, h5, h6⟩
  · intro p e s m args below meth c s₁ B hml hP _
    have hh0 : s₁.heap = s.heap := by rw [B.state]; rfl
    obtain ⟨t, a1, o, b1, b2, b3⟩ := body p e s m args below meth c s₁ B hml hP s₁ hh0 (Stand.of_body B)
    exact ⟨t, o, a1, b1, b2, b3⟩
/-! ===== END ===== -/
end
section
/-! base rows of this proof: worlds of rows of ints, calls joined back in one row -/
abbrev St : Type := (Nat → Nat → Int32) × (Nat → Int32)
def sA (x : St) (k i : Nat) (v : Int32) : St := (fun j => bif Nat.beq j k then upd (x.1 k) i v else x.1 j, x.2)
def sR (x : St) (k : Nat) (f : Nat → Int32) : St := (fun j => bif Nat.beq j k then f else x.1 j, x.2)
def sF (x : St) (k : Nat) (v : Int32) : St := (x.1, fun j => bif Nat.beq j k then v else x.2 j)
/-- what a method's world is at its start -/
def xP (D : va_G) (cl : List vw_C) (tys : List (ClassId × FieldType)) (wc : va_W) (sz : Nat) : State → Prop := fun U => U.heap.size = sz ∧ va_P D cl wc U.heap ∧ va_K D cl tys U ∧ va_D (fun _ => True) wc
/-- .. and at its end -/
def xB {S : Type} (D : va_G) (cl : List vw_C) (tys : List (ClassId × FieldType)) (A : Nat → Prop) (w1 : S → va_W) : S → State → Prop := fun u t => va_P D cl (w1 u) t.heap ∧ va_K D cl tys t ∧ va_D A (w1 u)
theorem x_fm {ws wc : va_W} {is : List Nat} (h : is.map (fun i => ws[i]?) = wc.map some) : is.filterMap (fun i => ws[i]?) = wc := by
  have e : is.filterMap (fun i => ws[i]?) = (is.map (fun i => ws[i]?)).filterMap id := by
    rw [List.filterMap_map]; rfl
  rw [e, h, List.filterMap_map]
  show wc.filterMap (fun a => some a) = wc
  exact List.filterMap_some
theorem x_blind {D : va_G} {cl : List vw_C} {tys : List (ClassId × FieldType)} {wc : va_W} {sz : Nat} {av : List Value} : FrameBlind (va_Pc av (xP D cl tys wc sz)) := fun a U g mk q => by
  obtain ⟨q0, q1, qP, qK, qD⟩ := q
  exact ⟨q0, q1, qP, va_K.moved (u := U) (U := U.calling g mk a) (Vm.Alike.refl U.vm) qK, qD⟩
theorem x_pre {D : va_G} {cl : List vw_C} {tys : List (ClassId × FieldType)} {w wc : va_W} {H : Heap} {s U : State} {A : Nat → Prop} {av : List Value} {isC : List Nat} (hK : va_K D cl tys s) (hP : va_P D cl w H) (hD : va_D A w) (hn : va_nd isC = true) (hC : isC.map (fun i => w[i]?) = wc.map some) (hU : U.heap = H) (hW : s.WarmedH U.vm) : va_Pc av (xP D cl tys wc H.size) av.toArray U :=
  ⟨rfl, by rw [hU], by rw [hU]; exact hP.sub isC (x_fm hC), va_K.moved hW.alike hK, (hD.sub isC hn hC).weaken (fun _ _ _ _ => trivial)⟩
section XC
variable {p : Program} {l : Launch} {e : Env} {R : Room} {s : State} {m : MethodId} {args : Array Value} {below : List Frame} {meth : Method} {c : Code} {H : Heap} {locs : List Loc} {cells slots : Nat} {Q : State → Prop}
variable {pc : Nat} {ls : Array Slot} {rest st0 : List Value} {a : Array Value} {A0 : Nat → Prop} {H0 : Heap} {mc ms : Nat} {D : va_G} {cl : List vw_C} {tys : List (ClassId × FieldType)}
/-- behind a call that answers an int -/
theorem x_ci {S : Type} {post : Int32 → S → Prop} {w wc : va_W} {w1 w2 : S → va_W} (isC isR isF : List Nat)
    (hr : va_Run p l e R s m args below meth c H locs cells slots mc ms (F0 m pc ls st0) rest (va_Qi post (xB D cl tys (va_A wc H.size) w1) (va_A wc H.size) a) (va_A wc H.size))
    (hP : va_P D cl w H) (hD : va_D A0 w) (hS : va_S A0 H0 H locs) (hA : ∀ q, H0.size ≤ q → A0 q)
    (hC : isC.map (fun i => w[i]?) = wc.map some) (hR : isR.map (fun i => w[i]?) = (isR.filterMap (fun i => w[i]?)).map some) (hn : va_nd isR = true) (hdis : ∀ i ∈ isR, i ∉ isC)
    (hF : ∀ u, isF.map (fun i => (isR.filterMap (fun i => w[i]?) ++ w1 u)[i]?) = (w2 u).map some) (hFn : va_nd isF = true)
    (kk : ∀ (r : Int32) (u : S) (H1 : Heap) (locs1 : List Loc), post r u → va_P D cl (w2 u) H1 → va_D A0 (w2 u) → va_S A0 H0 H1 locs1 → W p l e R s m args below meth c H1 locs1 (cells + mc) (slots + ms) Q (F0 m (pc + 3) ls (.int r :: rest))) :
    W p l e R s m args below meth c H locs cells slots Q (F0 m pc ls st0) := by
  have hFc := va_free (wc := wc) hD hS hA isC hC
  refine va_calli hr hS (fun q _ h => hFc q h) hFc (fun r u t H1 locs1 ht hvm hw hB hz1 hk1 hS1 => ?_)
  obtain ⟨hP1, -, hD1⟩ := hB
  rw [ht] at hP1
  obtain ⟨hP2, hD2⟩ := va_join (wr := isR.filterMap (fun i => w[i]?)) (w1 := w1 u) hP hD isC isR hC hR hn hdis hk1 hFc hP1 hD1
  exact kk r u H1 locs1 hw (hP2.sub isF (x_fm (hF u))) (hD2.sub isF hFn (hF u)) hS1
/-- .. that answers nothing -/
theorem x_cv {S : Type} {post : S → Prop} {w wc : va_W} {w1 w2 : S → va_W} (isC isR isF : List Nat)
    (hr : va_Run p l e R s m args below meth c H locs cells slots mc ms (F0 m pc ls st0) rest (va_Qv post (xB D cl tys (va_A wc H.size) w1) (va_A wc H.size) a) (va_A wc H.size))
    (hP : va_P D cl w H) (hD : va_D A0 w) (hS : va_S A0 H0 H locs) (hA : ∀ q, H0.size ≤ q → A0 q)
    (hC : isC.map (fun i => w[i]?) = wc.map some) (hR : isR.map (fun i => w[i]?) = (isR.filterMap (fun i => w[i]?)).map some) (hn : va_nd isR = true) (hdis : ∀ i ∈ isR, i ∉ isC)
    (hF : ∀ u, isF.map (fun i => (isR.filterMap (fun i => w[i]?) ++ w1 u)[i]?) = (w2 u).map some) (hFn : va_nd isF = true)
    (kk : ∀ (u : S) (H1 : Heap) (locs1 : List Loc), post u → va_P D cl (w2 u) H1 → va_D A0 (w2 u) → va_S A0 H0 H1 locs1 → W p l e R s m args below meth c H1 locs1 (cells + mc) (slots + ms) Q (F0 m (pc + 3) ls rest)) :
    W p l e R s m args below meth c H locs cells slots Q (F0 m pc ls st0) := by
  have hFc := va_free (wc := wc) hD hS hA isC hC
  refine va_callv hr hS (fun q _ h => hFc q h) hFc (fun u t H1 locs1 ht hvm hw hB hz1 hk1 hS1 => ?_)
  obtain ⟨hP1, -, hD1⟩ := hB
  rw [ht] at hP1
  obtain ⟨hP2, hD2⟩ := va_join (wr := isR.filterMap (fun i => w[i]?)) (w1 := w1 u) hP hD isC isR hC hR hn hdis hk1 hFc hP1 hD1
  exact kk u H1 locs1 hw (hP2.sub isF (x_fm (hF u))) (hD2.sub isF hFn (hF u)) hS1
end XC
/-- a method's contract out of its body: it answers an int (or a boolean) -/
theorem x_ofI {l : Launch} {y : MethodName} {ws ws' : List Cond} {rm : Room} {mc ms sz : Nat} {cc : ByteArray} {maxL : Nat} {ty : FieldType} {av : List Value} {D : va_G} {cl : List vw_C} {tys : List (ClassId × FieldType)} {w0 : va_W} {S : Type} {post : Int32 → S → Prop} {w1 : S → va_W}
    (hy : plainName y.cls = true) (hw : ws = Cond.code y cc maxL (some ty) :: ws') (hav : (lg_sl av).length ≤ maxL)
    (body : ∀ (p : Program) (e : Env) (s : State) (m : MethodId) (below : List Frame) (meth : Method) (c : Code) (A : Nat → Prop) (Q : State → Prop), p.tables.exec = Jvm.exec → c.code = cc → c.maxLocals = maxL → (∀ w ∈ ws', w.before av.toArray s = true) → s.vm.findClass y.cls = some m.cls → va_K D cl tys s → (∀ q, s.heap.size ≤ q → A q) → va_P D cl w0 s.heap → va_D A w0 → va_S A s.heap s.heap [] →
      (∀ (v : Int32) (u : S) (H : Heap) (locs : List Loc) (cells slots pc : Nat) (ls : Array Slot), narrow ty (.int v) = .int v → post v u → va_P D cl (w1 u) H → va_D A (w1 u) → va_S A s.heap H locs → cells ≤ mc → slots ≤ ms → decode cc pc = .ok (.ireturn, 1) → W p l e (headSpec ws rm).room s m av.toArray below meth c H locs cells slots Q (F0 m pc ls [.int v])) →
      ∀ ls : Array Slot, lv_has ls maxL (lv_args 0 av) → W p l e (headSpec ws rm).room s m av.toArray below meth c s.heap [] 0 0 Q (F0 m 0 ls [])) :
    Met l y ws rm (va_Pc av (xP D cl tys w0 sz)) (va_Qi post (xB D cl tys (va_A w0 sz) w1) (va_A w0 sz)) mc ms (va_A w0 sz) := by
  refine Met.ofW (cc := cc) (maxL := maxL) (ret := some ty) hy hw ?_
  intro p e s m args below meth c s₁ B hml hv
  obtain ⟨rfl, hsz, hP, hK, hD0⟩ := hv
  subst hsz
  have hl := lv_entry av (n := maxL) hav
  have hlocks := B.notSynchronized
  have hr := B.returns
  rw [lg_entry_eq]
  exact body p e s m below meth c (va_A w0 s.heap.size) _ B.exec B.bytes hml (fun w h => atoms_spec (ws := ws) B.pre w (by rw [hw]; exact List.mem_cons_of_mem _ h)) (findClass_of_methodNamed B.named) hK (fun q h => Or.inr h) hP hD0.self va_S.rf (fun v u H locs cells slots pc ls hn hp hP1 hD1 hS1 hc hs hd => W.widen hc hs (W.zret B.exec B.bytes hr hn (fun t ht hW => ⟨⟨v, u, rfl, hp, by rw [ht]; exact hP1, va_K.moved hW.alike hK, hD1⟩, hS1.F ht⟩) hS1.2.2 hd)) _ hl
/-- .. it answers nothing -/
theorem x_ofV {l : Launch} {y : MethodName} {ws ws' : List Cond} {rm : Room} {mc ms sz : Nat} {cc : ByteArray} {maxL : Nat} {av : List Value} {D : va_G} {cl : List vw_C} {tys : List (ClassId × FieldType)} {w0 : va_W} {S : Type} {post : S → Prop} {w1 : S → va_W}
    (hy : plainName y.cls = true) (hw : ws = Cond.code y cc maxL none :: ws') (hav : (lg_sl av).length ≤ maxL)
    (body : ∀ (p : Program) (e : Env) (s : State) (m : MethodId) (below : List Frame) (meth : Method) (c : Code) (A : Nat → Prop) (Q : State → Prop), p.tables.exec = Jvm.exec → c.code = cc → c.maxLocals = maxL → (∀ w ∈ ws', w.before av.toArray s = true) → s.vm.findClass y.cls = some m.cls → meth.name = y.name → va_K D cl tys s → (∀ q, s.heap.size ≤ q → A q) → va_P D cl w0 s.heap → va_D A w0 → va_S A s.heap s.heap [] →
      (∀ (u : S) (H : Heap) (locs : List Loc) (cells slots pc : Nat) (ls : Array Slot), post u → va_P D cl (w1 u) H → va_D A (w1 u) → va_S A s.heap H locs → cells ≤ mc → slots ≤ ms → decode cc pc = .ok (.return_, 1) → W p l e (headSpec ws rm).room s m av.toArray below meth c H locs cells slots Q (F0 m pc ls [])) →
      ∀ ls : Array Slot, lv_has ls maxL (lv_args 0 av) → W p l e (headSpec ws rm).room s m av.toArray below meth c s.heap [] 0 0 Q (F0 m 0 ls [])) :
    Met l y ws rm (va_Pc av (xP D cl tys w0 sz)) (va_Qv post (xB D cl tys (va_A w0 sz) w1) (va_A w0 sz)) mc ms (va_A w0 sz) := by
  refine Met.ofW (cc := cc) (maxL := maxL) (ret := none) hy hw ?_
  intro p e s m args below meth c s₁ B hml hv
  obtain ⟨rfl, hsz, hP, hK, hD0⟩ := hv
  subst hsz
  have hl := lv_entry av (n := maxL) hav
  have hlocks := B.notSynchronized
  have hr := B.returns
  have hin : meth.name = y.name := (name_of_methodNamed B.named B.method).1
  rw [lg_entry_eq]
  exact body p e s m below meth c (va_A w0 s.heap.size) _ B.exec B.bytes hml (fun w h => atoms_spec (ws := ws) B.pre w (by rw [hw]; exact List.mem_cons_of_mem _ h)) (findClass_of_methodNamed B.named) hin hK (fun q h => Or.inr h) hP hD0.self va_S.rf (fun u H locs cells slots pc ls hp hP1 hD1 hS1 hc hs hd => W.widen hc hs (W.vret B.exec B.bytes hr (fun t ht hW => ⟨⟨u, rfl, hp, by rw [ht]; exact hP1, va_K.moved hW.alike hK, hD1⟩, hS1.F ht⟩) hS1.2.2 hd)) _ hl
theorem x_same {U : State} {c1 c2 : ClassId} (h1 : va_RA U c1 .int) (h2 : va_RA U c2 .int) : c1 = c2 := Option.some.inj (Eq.trans (Eq.symm h1) h2)
theorem x_sameZ {U : State} {c1 c2 : ClassId} (h1 : va_RA U c1 .boolean) (h2 : va_RA U c2 .boolean) : c1 = c2 := Option.some.inj (Eq.trans (Eq.symm h1) h2)
section XN
variable {p : Program} {l : Launch} {e : Env} {R : Room} {s : State} {m : MethodId} {args : Array Value} {below : List Frame} {meth : Method} {c : Code} {H : Heap} {locs : List Loc} {cells slots : Nat} {Q : State → Prop}
variable {cc : ByteArray} {pc : Nat} {ls : Array Slot} {rest : List Value} {A0 : Nat → Prop} {H0 : Heap} {D : va_G} {cl : List vw_C} {cI cZ cL : ClassId} {w : va_W}
/-- new int[N] -/
theorem x_newI (hx : p.tables.exec = Jvm.exec) (hb : c.code = cc) (harr : (Cond.arrayClass .int).before args s = true) (hK : va_K D cl [(cI, .int), (cZ, .boolean), (cL, .long)] s) (hP : va_P D cl w H) (hD : va_D A0 w) (hS : va_S A0 H0 H locs) (hA : ∀ q, H0.size ≤ q → A0 q)
    {n : Int32} {N : Nat} (hn : ¬ n < 0) (hN : n.toNatClampNeg = N) (hby : N * componentBytes .int ≤ 536870912) (hc : cells + 1 ≤ R.cells) (hs : slots + N ≤ R.slots) (hdg : decode cc pc = .ok (.newarray .int, 2))
    (kk : ∀ (q : Nat) (H1 : Heap), va_P D cl (w ++ [(q, .inl (cI, N, .inl (fun _ => 0)))]) H1 → va_D A0 (w ++ [(q, .inl (cI, N, .inl (fun _ => 0)))]) → va_S A0 H0 H1 locs → W p l e R s m args below meth c H1 locs (cells + 1) (slots + N) Q (F0 m (pc + 2) ls (.ref q :: rest))) :
    W p l e R s m args below meth c H locs cells slots Q (F0 m pc ls (.int n :: rest)) := by
  refine va_newa (atype := .int) (ty := .int) (a0 := (N, .inl (fun _ => 0))) hx hb harr rfl hK hP hD hS hA (fun _ => rfl) hn hN hby hc hs hdg (fun q cA H1 hK1 hP1 hD1 hS1 => ?_)
  have e1 : cA = cI := x_same (hK1.2 3 _ rfl).2 (hK1.2 0 _ rfl).2
  subst e1
  exact kk q H1 hP1 hD1 hS1
/-- new boolean[N] -/
theorem x_newZ (hx : p.tables.exec = Jvm.exec) (hb : c.code = cc) (harr : (Cond.arrayClass .boolean).before args s = true) (hK : va_K D cl [(cI, .int), (cZ, .boolean), (cL, .long)] s) (hP : va_P D cl w H) (hD : va_D A0 w) (hS : va_S A0 H0 H locs) (hA : ∀ q, H0.size ≤ q → A0 q)
    {n : Int32} {N : Nat} (hn : ¬ n < 0) (hN : n.toNatClampNeg = N) (hby : N * componentBytes .boolean ≤ 536870912) (hc : cells + 1 ≤ R.cells) (hs : slots + N ≤ R.slots) (hdg : decode cc pc = .ok (.newarray .boolean, 2))
    (kk : ∀ (q : Nat) (H1 : Heap), va_P D cl (w ++ [(q, .inl (cZ, N, .inl (fun _ => 0)))]) H1 → va_D A0 (w ++ [(q, .inl (cZ, N, .inl (fun _ => 0)))]) → va_S A0 H0 H1 locs → W p l e R s m args below meth c H1 locs (cells + 1) (slots + N) Q (F0 m (pc + 2) ls (.ref q :: rest))) :
    W p l e R s m args below meth c H locs cells slots Q (F0 m pc ls (.int n :: rest)) := by
  refine va_newa (atype := .boolean) (ty := .boolean) (a0 := (N, .inl (fun _ => 0))) hx hb harr rfl hK hP hD hS hA (fun _ => rfl) hn hN hby hc hs hdg (fun q cA H1 hK1 hP1 hD1 hS1 => ?_)
  have e1 : cA = cZ := x_sameZ (hK1.2 3 _ rfl).2 (hK1.2 1 _ rfl).2
  subst e1
  exact kk q H1 hP1 hD1 hS1
end XN
/-! the good words of the tables: every method's words are its own code and these -/
def gG : List Cond := lw_tbl.filter goodWord
theorem x_k {w : Cond} (i : Nat) (h : lw_tbl[i]? = some w) (hg : goodWord w = true) : w ∈ gG := List.mem_filter.mpr ⟨List.mem_of_getElem? h, hg⟩
theorem x_gG : ∀ w ∈ gG, ((w.onTables && w.keeps) = true ∨ ∃ ty, w = .arrayClass ty) := fun w h => good_of_word (List.mem_filter.mp h).2
theorem x_gC {y : MethodName} {b : ByteArray} {n : Nat} {r : Option FieldType} (h5 : Cond.code y b n r ∈ gG) : GoodIn gG (Cond.code y b n r :: gG) := fun w h => by
  rcases List.mem_cons.mp h with rfl | h
  · exact ⟨h5, x_gG _ h5⟩
  · exact ⟨h, x_gG _ h⟩
theorem x_gV {own C : String} {idx n : Nat} {y : MethodName} {b : ByteArray} {r : Option FieldType} (h1 : Cond.methodLink own idx y ∈ gG) (h2 : Cond.instanceMethod y ∈ gG) (h3 : Cond.selects C y y ∈ gG) (h4 : Cond.initialized C ∈ gG) (h5 : Cond.code y b n r ∈ gG) : GoodIn gG (wsV own idx C y (Cond.code y b n r :: gG)) := fun w h => by
  rcases List.mem_append.mp h with h | h
  · simp only [List.mem_cons, List.not_mem_nil, or_false] at h
    rcases h with rfl | rfl | rfl | rfl
    · exact ⟨h1, x_gG _ h1⟩
    · exact ⟨h2, x_gG _ h2⟩
    · exact ⟨h3, x_gG _ h3⟩
    · exact ⟨h4, x_gG _ h4⟩
  · exact x_gC h5 w h
theorem x_gS {own : String} {idx n : Nat} {y : MethodName} {b : ByteArray} {r : Option FieldType} (h1 : Cond.methodLink own idx y ∈ gG) (h2 : Cond.static y ∈ gG) (h4 : Cond.initialized own ∈ gG) (h5 : Cond.code y b n r ∈ gG) : GoodIn gG (wsS own idx y (Cond.code y b n r :: gG)) := fun w h => by
  rcases List.mem_append.mp h with h | h
  · simp only [List.mem_cons, List.not_mem_nil, or_false] at h
    rcases h with rfl | rfl | rfl
    · exact ⟨h1, x_gG _ h1⟩
    · exact ⟨h2, x_gG _ h2⟩
    · exact ⟨h4, x_gG _ h4⟩
  · exact x_gC h5 w h
end
section
/-! methods that may throw -/
def xBX {S : Type} (D : va_G) (cl : List vw_C) (A : Nat → Prop) (postX : String → S → Prop) (w1 : S → va_W) : String → S → State → Prop := fun E u t => postX E u ∧ va_P D cl (w1 u) t.heap ∧ va_D A (w1 u)
section XX
variable {p : Program} {l : Launch} {e : Env} {R : Room} {s : State} {m : MethodId} {args : Array Value} {below : List Frame} {meth : Method} {c : Code} {H : Heap} {locs : List Loc} {cells slots : Nat} {Q : State → Prop}
variable {pc : Nat} {ls : Array Slot} {rest st0 : List Value} {a : Array Value} {A0 : Nat → Prop} {H0 : Heap} {mc ms : Nat} {D : va_G} {cl : List vw_C} {tys : List (ClassId × FieldType)}
/-- behind a call that answers nothing, or throws -/
theorem x_cxv {S SX : Type} {post : S → Prop} {postX : String → SX → Prop} {w wc : va_W} {w1 w2 : S → va_W} {v1 v2 : SX → va_W} (isC isR isF : List Nat)
    (hr : vx_Run p l e R s m args below meth c H locs cells slots mc ms (F0 m pc ls st0) rest (va_Qv post (xB D cl tys (va_A wc H.size) w1) (va_A wc H.size) a) (vx_X (fun _ => True) (xBX D cl (va_A wc H.size) postX v1) (va_A wc H.size)) (va_A wc H.size))
    (hP : va_P D cl w H) (hD : va_D A0 w) (hS : va_S A0 H0 H locs) (hA : ∀ q, H0.size ≤ q → A0 q)
    (hC : isC.map (fun i => w[i]?) = wc.map some) (hR : isR.map (fun i => w[i]?) = (isR.filterMap (fun i => w[i]?)).map some) (hn : va_nd isR = true) (hdis : ∀ i ∈ isR, i ∉ isC)
    (hF : ∀ u, isF.map (fun i => (isR.filterMap (fun i => w[i]?) ++ w1 u)[i]?) = (w2 u).map some) (hG : ∀ u, isF.map (fun i => (isR.filterMap (fun i => w[i]?) ++ v1 u)[i]?) = (v2 u).map some) (hFn : va_nd isF = true)
    (kx : ∀ (E : String) (u : SX) (ce : Cell) (q9 : Addr) (H1 : Heap) (locs1 : List Loc), postX E u → va_P D cl (v2 u) H1 → va_D A0 (v2 u) → va_S A0 H0 H1 locs1 → H1[q9]? = some ce → ce.vm = .none → s.vm.findClass E = some ce.cls → vx_W p l e R s m args below meth c H1 locs1 (cells + mc) (slots + ms) Q (F0 m pc ls rest) q9)
    (kk : ∀ (u : S) (H1 : Heap) (locs1 : List Loc), post u → va_P D cl (w2 u) H1 → va_D A0 (w2 u) → va_S A0 H0 H1 locs1 → W p l e R s m args below meth c H1 locs1 (cells + mc) (slots + ms) Q (F0 m (pc + 3) ls rest)) :
    W p l e R s m args below meth c H locs cells slots Q (F0 m pc ls st0) := by
  have hFc := va_free (wc := wc) hD hS hA isC hC
  refine vx_callv hr hS (fun q _ h => hFc q h) hFc (fun q _ h => hFc q h) (fun E ce q9 u t H1 locs1 ht hvm _ hB hz1 hk1 hS1 h1 h2 h3 => ?_) (fun u t H1 locs1 ht hvm hw hB hz1 hk1 hS1 => ?_)
  · obtain ⟨hpx, hP1, hD1⟩ := hB
    rw [ht] at hP1
    obtain ⟨hP2, hD2⟩ := va_join (wr := isR.filterMap (fun i => w[i]?)) (w1 := v1 u) hP hD isC isR hC hR hn hdis hk1 hFc hP1 hD1
    exact kx E u ce q9 H1 locs1 hpx (hP2.sub isF (x_fm (hG u))) (hD2.sub isF hFn (hG u)) hS1 h1 h2 h3
  · obtain ⟨hP1, -, hD1⟩ := hB
    rw [ht] at hP1
    obtain ⟨hP2, hD2⟩ := va_join (wr := isR.filterMap (fun i => w[i]?)) (w1 := w1 u) hP hD isC isR hC hR hn hdis hk1 hFc hP1 hD1
    exact kk u H1 locs1 hw (hP2.sub isF (x_fm (hF u))) (hD2.sub isF hFn (hF u)) hS1
/-- behind a call that answers an int, or throws -/
theorem x_cxi {S SX : Type} {post : Int32 → S → Prop} {postX : String → SX → Prop} {w wc : va_W} {w1 w2 : S → va_W} {v1 v2 : SX → va_W} (isC isR isF : List Nat)
    (hr : vx_Run p l e R s m args below meth c H locs cells slots mc ms (F0 m pc ls st0) rest (va_Qi post (xB D cl tys (va_A wc H.size) w1) (va_A wc H.size) a) (vx_X (fun _ => True) (xBX D cl (va_A wc H.size) postX v1) (va_A wc H.size)) (va_A wc H.size))
    (hP : va_P D cl w H) (hD : va_D A0 w) (hS : va_S A0 H0 H locs) (hA : ∀ q, H0.size ≤ q → A0 q)
    (hC : isC.map (fun i => w[i]?) = wc.map some) (hR : isR.map (fun i => w[i]?) = (isR.filterMap (fun i => w[i]?)).map some) (hn : va_nd isR = true) (hdis : ∀ i ∈ isR, i ∉ isC)
    (hF : ∀ u, isF.map (fun i => (isR.filterMap (fun i => w[i]?) ++ w1 u)[i]?) = (w2 u).map some) (hG : ∀ u, isF.map (fun i => (isR.filterMap (fun i => w[i]?) ++ v1 u)[i]?) = (v2 u).map some) (hFn : va_nd isF = true)
    (kx : ∀ (E : String) (u : SX) (ce : Cell) (q9 : Addr) (H1 : Heap) (locs1 : List Loc), postX E u → va_P D cl (v2 u) H1 → va_D A0 (v2 u) → va_S A0 H0 H1 locs1 → H1[q9]? = some ce → ce.vm = .none → s.vm.findClass E = some ce.cls → vx_W p l e R s m args below meth c H1 locs1 (cells + mc) (slots + ms) Q (F0 m pc ls rest) q9)
    (kk : ∀ (r : Int32) (u : S) (H1 : Heap) (locs1 : List Loc), post r u → va_P D cl (w2 u) H1 → va_D A0 (w2 u) → va_S A0 H0 H1 locs1 → W p l e R s m args below meth c H1 locs1 (cells + mc) (slots + ms) Q (F0 m (pc + 3) ls (.int r :: rest))) :
    W p l e R s m args below meth c H locs cells slots Q (F0 m pc ls st0) := by
  have hFc := va_free (wc := wc) hD hS hA isC hC
  refine vx_calli hr hS (fun q _ h => hFc q h) hFc (fun q _ h => hFc q h) (fun E ce q9 u t H1 locs1 ht hvm _ hB hz1 hk1 hS1 h1 h2 h3 => ?_) (fun r u t H1 locs1 ht hvm hw hB hz1 hk1 hS1 => ?_)
  · obtain ⟨hpx, hP1, hD1⟩ := hB
    rw [ht] at hP1
    obtain ⟨hP2, hD2⟩ := va_join (wr := isR.filterMap (fun i => w[i]?)) (w1 := v1 u) hP hD isC isR hC hR hn hdis hk1 hFc hP1 hD1
    exact kx E u ce q9 H1 locs1 hpx (hP2.sub isF (x_fm (hG u))) (hD2.sub isF hFn (hG u)) hS1 h1 h2 h3
  · obtain ⟨hP1, -, hD1⟩ := hB
    rw [ht] at hP1
    obtain ⟨hP2, hD2⟩ := va_join (wr := isR.filterMap (fun i => w[i]?)) (w1 := w1 u) hP hD isC isR hC hR hn hdis hk1 hFc hP1 hD1
    exact kk r u H1 locs1 hw (hP2.sub isF (x_fm (hF u))) (hD2.sub isF hFn (hF u)) hS1
end XX
/-- what a throw needs of the start: the two statics of Throwable, and the texts -/
def xE (own : String) (tx : List (Nat × String)) (sa : Nat → Nat) (A : Nat → Prop) (H : Heap) (U : State) : Prop := vx_Zq Bundle.tN "UNASSIGNED_STACK" Bundle.steD A U H ∧ vx_Zq Bundle.tN "SUPPRESSED_SENTINEL" Bundle.listD A U H ∧ ∀ q ∈ tx, vk_R own q.1 q.2 (sa q.1) U
theorem xE.at {own : String} {tx : List (Nat × String)} {sa : Nat → Nat} {A B : Nat → Prop} {H0 H : Heap} {locs : List Loc} {s U : State} (h : xE own tx sa A H0 s) (hS : va_S A H0 H locs) (hAB : ∀ q, B q → A q) (hW : s.WarmedH U.vm) : xE own tx sa B H U :=
  ⟨((h.1.kept hS.2.1).narrow hAB).moved hW.alike, ((h.2.1.kept hS.2.1).narrow hAB).moved hW.alike, fun q hq => (h.2.2 q hq).warm hW⟩
theorem x_blindX {D : va_G} {cl : List vw_C} {tys : List (ClassId × FieldType)} {wc : va_W} {sz : Nat} {av : List Value} {own : String} {tx : List (Nat × String)} {sa : Nat → Nat} {A : Nat → Prop} : FrameBlind (va_Pc av (fun U => xP D cl tys wc sz U ∧ xE own tx sa A U.heap U)) := fun a U g mk q => by
  obtain ⟨q0, ⟨q1, qP, qK, qD⟩, e1, e2, e3⟩ := q
  exact ⟨q0, ⟨q1, qP, va_K.moved (u := U) (U := U.calling g mk a) (Vm.Alike.refl U.vm) qK, qD⟩, vx_Zq.moved (u := U) (U := U.calling g mk a) (Vm.Alike.refl U.vm) e1, vx_Zq.moved (u := U) (U := U.calling g mk a) (Vm.Alike.refl U.vm) e2, fun q hq => vk_R.same (u := U) (U := U.calling g mk a) rfl (e3 q hq)⟩
theorem x_preX {D : va_G} {cl : List vw_C} {tys : List (ClassId × FieldType)} {w wc : va_W} {H0 H : Heap} {locs : List Loc} {s U : State} {A : Nat → Prop} {av : List Value} {isC : List Nat} {own : String} {tx : List (Nat × String)} {sa : Nat → Nat} (hK : va_K D cl tys s) (hP : va_P D cl w H) (hD : va_D A w) (hS : va_S A H0 H locs) (hA : ∀ q, H0.size ≤ q → A q) (hE : xE own tx sa A H0 s) (hn : va_nd isC = true) (hC : isC.map (fun i => w[i]?) = wc.map some) (hU : U.heap = H) (hW : s.WarmedH U.vm) : va_Pc av (fun U => xP D cl tys wc H.size U ∧ xE own tx sa (va_A wc H.size) U.heap U) av.toArray U :=
  ⟨rfl, ⟨by rw [hU], by rw [hU]; exact hP.sub isC (x_fm hC), va_K.moved hW.alike hK, (hD.sub isC hn hC).weaken (fun _ _ _ _ => trivial)⟩, by rw [hU]; exact hE.at hS (va_free (wc := wc) hD hS hA isC hC) hW⟩
/-- a contract of a method that may throw, out of its body: it answers nothing -/
theorem x_ofXV {l : Launch} {y : MethodName} {ws ws' : List Cond} {rm : Room} {mc ms sz : Nat} {cc : ByteArray} {maxL : Nat} {av : List Value} {D : va_G} {cl : List vw_C} {tys : List (ClassId × FieldType)} {w0 : va_W} {S SX : Type} {post : S → Prop} {postX : String → SX → Prop} {w1 : S → va_W} {v1 : SX → va_W} {own : String} {tx : List (Nat × String)} {sa : Nat → Nat}
    (hy : plainName y.cls = true) (hw : ws = Cond.code y cc maxL none :: ws') (hav : (lg_sl av).length ≤ maxL)
    (body : ∀ (p : Program) (e : Env) (s : State) (m : MethodId) (below : List Frame) (meth : Method) (c : Code) (A : Nat → Prop) (Q : State → Prop), p.tables.exec = Jvm.exec → c.code = cc → c.maxLocals = maxL → (∀ w ∈ ws', w.before av.toArray s = true) → s.vm.findClass y.cls = some m.cls → meth.locks = false → (∀ x ∈ c.exceptionTable.toList, False) → va_K D cl tys s → (∀ q, s.heap.size ≤ q → A q) → va_P D cl w0 s.heap → va_D A w0 → va_S A s.heap s.heap [] → xE own tx sa A s.heap s →
      Q = vx_MQ below (va_Qv post (xB D cl tys A w1) A) (vx_X (fun _ => True) (xBX D cl A postX v1) A) av.toArray s mc ms A →
      (∀ (u : S) (H : Heap) (locs : List Loc) (cells slots pc : Nat) (ls : Array Slot), post u → va_P D cl (w1 u) H → va_D A (w1 u) → va_S A s.heap H locs → cells ≤ mc → slots ≤ ms → decode cc pc = .ok (.return_, 1) → W p l e (headSpec ws rm).room s m av.toArray below meth c H locs cells slots Q (F0 m pc ls [])) →
      (∀ (E : String) (u : SX) (ce : Cell) (q9 : Addr) (H : Heap) (locs : List Loc) (cells slots pc : Nat) (ls : Array Slot) (rest : List Value), postX E u → va_P D cl (v1 u) H → va_D A (v1 u) → va_S A s.heap H locs → H[q9]? = some ce → ce.vm = .none → s.vm.findClass E = some ce.cls → cells ≤ mc → slots ≤ ms → vx_W p l e (headSpec ws rm).room s m av.toArray below meth c H locs cells slots Q (F0 m pc ls rest) q9) →
      ∀ ls : Array Slot, lv_has ls maxL (lv_args 0 av) → W p l e (headSpec ws rm).room s m av.toArray below meth c s.heap [] 0 0 Q (F0 m 0 ls [])) :
    vx_Met l y ws rm (va_Pc av (fun U => xP D cl tys w0 sz U ∧ xE own tx sa (va_A w0 sz) U.heap U)) (va_Qv post (xB D cl tys (va_A w0 sz) w1) (va_A w0 sz)) (vx_X (fun _ => True) (xBX D cl (va_A w0 sz) postX v1) (va_A w0 sz)) mc ms (va_A w0 sz) := by
  refine vx_ofW (cc := cc) (maxL := maxL) (ret := none) hy hw ?_
  intro p e s m args below meth c s₁ B hml hex hv
  obtain ⟨rfl, ⟨hsz, hP, hK, hD0⟩, hE⟩ := hv
  subst hsz
  have hl := lv_entry av (n := maxL) hav
  have hlocks := B.notSynchronized
  have hr := B.returns
  rw [lg_entry_eq]
  exact body p e s m below meth c (va_A w0 s.heap.size) _ B.exec B.bytes hml (fun w h => atoms_spec (ws := ws) B.pre w (by rw [hw]; exact List.mem_cons_of_mem _ h)) (findClass_of_methodNamed B.named) hlocks hex hK (fun q h => Or.inr h) hP hD0.self va_S.rf hE rfl (fun u H locs cells slots pc ls hp hP1 hD1 hS1 hc hs hd => vx_ret (W.widen hc hs (W.vret B.exec B.bytes hr (fun t ht hW => ⟨⟨u, rfl, hp, by rw [ht]; exact hP1, va_K.moved hW.alike hK, hD1⟩, hS1.F ht⟩) hS1.2.2 hd))) (fun E u ce q9 H locs cells slots pc ls rest hpx hP1 hD1 hS1 h1 h2 h3 hc hs => vx_out (fun x hx => (hex x hx).elim) hlocks h1 h2 h3 (fun t ht _ => ⟨u, trivial, ⟨hpx, by rw [ht]; exact hP1, hD1⟩, hS1.F ht⟩) hS1.2.2 hc hs) _ hl
/-- .. it answers an int -/
theorem x_ofXI {l : Launch} {y : MethodName} {ws ws' : List Cond} {rm : Room} {mc ms sz : Nat} {cc : ByteArray} {maxL : Nat} {ty : FieldType} {av : List Value} {D : va_G} {cl : List vw_C} {tys : List (ClassId × FieldType)} {w0 : va_W} {S SX : Type} {post : Int32 → S → Prop} {postX : String → SX → Prop} {w1 : S → va_W} {v1 : SX → va_W} {own : String} {tx : List (Nat × String)} {sa : Nat → Nat}
    (hy : plainName y.cls = true) (hw : ws = Cond.code y cc maxL (some ty) :: ws') (hav : (lg_sl av).length ≤ maxL)
    (body : ∀ (p : Program) (e : Env) (s : State) (m : MethodId) (below : List Frame) (meth : Method) (c : Code) (A : Nat → Prop) (Q : State → Prop), p.tables.exec = Jvm.exec → c.code = cc → c.maxLocals = maxL → (∀ w ∈ ws', w.before av.toArray s = true) → s.vm.findClass y.cls = some m.cls → meth.locks = false → (∀ x ∈ c.exceptionTable.toList, False) → va_K D cl tys s → (∀ q, s.heap.size ≤ q → A q) → va_P D cl w0 s.heap → va_D A w0 → va_S A s.heap s.heap [] → xE own tx sa A s.heap s →
      Q = vx_MQ below (va_Qi post (xB D cl tys A w1) A) (vx_X (fun _ => True) (xBX D cl A postX v1) A) av.toArray s mc ms A →
      (∀ (v : Int32) (u : S) (H : Heap) (locs : List Loc) (cells slots pc : Nat) (ls : Array Slot), narrow ty (.int v) = .int v → post v u → va_P D cl (w1 u) H → va_D A (w1 u) → va_S A s.heap H locs → cells ≤ mc → slots ≤ ms → decode cc pc = .ok (.ireturn, 1) → W p l e (headSpec ws rm).room s m av.toArray below meth c H locs cells slots Q (F0 m pc ls [.int v])) →
      (∀ (E : String) (u : SX) (ce : Cell) (q9 : Addr) (H : Heap) (locs : List Loc) (cells slots pc : Nat) (ls : Array Slot) (rest : List Value), postX E u → va_P D cl (v1 u) H → va_D A (v1 u) → va_S A s.heap H locs → H[q9]? = some ce → ce.vm = .none → s.vm.findClass E = some ce.cls → cells ≤ mc → slots ≤ ms → vx_W p l e (headSpec ws rm).room s m av.toArray below meth c H locs cells slots Q (F0 m pc ls rest) q9) →
      ∀ ls : Array Slot, lv_has ls maxL (lv_args 0 av) → W p l e (headSpec ws rm).room s m av.toArray below meth c s.heap [] 0 0 Q (F0 m 0 ls [])) :
    vx_Met l y ws rm (va_Pc av (fun U => xP D cl tys w0 sz U ∧ xE own tx sa (va_A w0 sz) U.heap U)) (va_Qi post (xB D cl tys (va_A w0 sz) w1) (va_A w0 sz)) (vx_X (fun _ => True) (xBX D cl (va_A w0 sz) postX v1) (va_A w0 sz)) mc ms (va_A w0 sz) := by
  refine vx_ofW (cc := cc) (maxL := maxL) (ret := some ty) hy hw ?_
  intro p e s m args below meth c s₁ B hml hex hv
  obtain ⟨rfl, ⟨hsz, hP, hK, hD0⟩, hE⟩ := hv
  subst hsz
  have hl := lv_entry av (n := maxL) hav
  have hlocks := B.notSynchronized
  have hr := B.returns
  rw [lg_entry_eq]
  exact body p e s m below meth c (va_A w0 s.heap.size) _ B.exec B.bytes hml (fun w h => atoms_spec (ws := ws) B.pre w (by rw [hw]; exact List.mem_cons_of_mem _ h)) (findClass_of_methodNamed B.named) hlocks hex hK (fun q h => Or.inr h) hP hD0.self va_S.rf hE rfl (fun v u H locs cells slots pc ls hn hp hP1 hD1 hS1 hc hs hd => vx_ret (W.widen hc hs (W.zret B.exec B.bytes hr hn (fun t ht hW => ⟨⟨v, u, rfl, hp, by rw [ht]; exact hP1, va_K.moved hW.alike hK, hD1⟩, hS1.F ht⟩) hS1.2.2 hd))) (fun E u ce q9 H locs cells slots pc ls rest hpx hP1 hD1 hS1 h1 h2 h3 hc hs => vx_out (fun x hx => (hex x hx).elim) hlocks h1 h2 h3 (fun t ht _ => ⟨u, trivial, ⟨hpx, by rw [ht]; exact hP1, hD1⟩, hS1.F ht⟩) hS1.2.2 hc hs) _ hl
end
section
def T_I : u_T := fun k => match k with
  | 0 => ("ReleaseRows$IncidentRows", "place", "[I", true)
  | 1 => ("ReleaseRows$IncidentRows", "isOpen", "[Z", true)
  | 2 => ("ReleaseRows$IncidentRows", "unitWasThere", "[Z", true)
  | 3 => ("ReleaseRows$IncidentRows", "reportRows", "[I", true)
  | 4 => ("ReleaseRows$IncidentRows", "persons", "[I", true)
  | 5 => ("ReleaseRows$IncidentRows", "watchEnd", "[I", true)
  | 6 => ("ReleaseRows$IncidentRows", "timesOpened", "[I", true)
  | 7 => ("ReleaseRows$IncidentRows", "timesClosed", "[I", true)
  | 8 => ("ReleaseRows$IncidentRows", "closedAt", "[I", true)
  | _ => ("ReleaseRows$IncidentRows", "size", "I", false)
def ty_I : Nat → FieldType := fun k => match k with
  | 0 => .array .int
  | 1 => .array .boolean
  | 2 => .array .boolean
  | 3 => .array .int
  | 4 => .array .int
  | 5 => .array .int
  | 6 => .array .int
  | 7 => .array .int
  | 8 => .array .int
  | _ => .int
theorem nm_I : ∀ a, a < 10 → ∀ b, b < 10 → a ≠ b → (T_I a).2.1 ≠ (T_I b).2.1 := by decide +kernel
theorem tyok_I : ∀ k, k < 10 → parseFieldDescriptor (T_I k).2.2.1 = some (ty_I k) := by decide +kernel
def T_U : u_T := fun k => match k with
  | 0 => ("ReleaseRows$UnitRows", "home", "[I", true)
  | 1 => ("ReleaseRows$UnitRows", "cleaning", "[I", true)
  | 2 => ("ReleaseRows$UnitRows", "refilling", "[I", true)
  | 3 => ("ReleaseRows$UnitRows", "checks", "[I", true)
  | 4 => ("ReleaseRows$UnitRows", "checksDone", "[I", true)
  | 5 => ("ReleaseRows$UnitRows", "is", "[I", true)
  | 6 => ("ReleaseRows$UnitRows", "incident", "[I", true)
  | 7 => ("ReleaseRows$UnitRows", "since", "[I", true)
  | 8 => ("ReleaseRows$UnitRows", "timesSent", "[I", true)
  | 9 => ("ReleaseRows$UnitRows", "used", "[I", true)
  | _ => ("ReleaseRows$UnitRows", "size", "I", false)
def ty_U : Nat → FieldType := fun k => match k with
  | 0 => .array .int
  | 1 => .array .int
  | 2 => .array .int
  | 3 => .array .int
  | 4 => .array .int
  | 5 => .array .int
  | 6 => .array .int
  | 7 => .array .int
  | 8 => .array .int
  | 9 => .array .int
  | _ => .int
theorem nm_U : ∀ a, a < 11 → ∀ b, b < 11 → a ≠ b → (T_U a).2.1 ≠ (T_U b).2.1 := by decide +kernel
theorem tyok_U : ∀ k, k < 11 → parseFieldDescriptor (T_U k).2.2.1 = some (ty_U k) := by decide +kernel
def T_W : u_T := fun k => match k with
  | 0 => ("ReleaseRows$WaitingRow", "incident", "[I", true)
  | _ => ("ReleaseRows$WaitingRow", "size", "I", false)
def ty_W : Nat → FieldType := fun k => match k with
  | 0 => .array .int
  | _ => .int
theorem nm_W : ∀ a, a < 2 → ∀ b, b < 2 → a ≠ b → (T_W a).2.1 ≠ (T_W b).2.1 := by decide +kernel
theorem tyok_W : ∀ k, k < 2 → parseFieldDescriptor (T_W k).2.2.1 = some (ty_W k) := by decide +kernel
def T_R : u_T := fun k => match k with
  | 0 => ("ReleaseRows", "units", "LReleaseRows$UnitRows;", true)
  | 1 => ("ReleaseRows", "incidents", "LReleaseRows$IncidentRows;", true)
  | 2 => ("ReleaseRows", "waiting", "LReleaseRows$WaitingRow;", true)
  | 3 => ("ReleaseRows", "stocks", "[I", true)
  | 4 => ("ReleaseRows", "second", "I", false)
  | _ => ("ReleaseRows", "reopenSpan", "I", false)
def ty_R : Nat → FieldType := fun k => match k with
  | 0 => .object "ReleaseRows$UnitRows"
  | 1 => .object "ReleaseRows$IncidentRows"
  | 2 => .object "ReleaseRows$WaitingRow"
  | 3 => .array .int
  | 4 => .int
  | _ => .int
theorem nm_R : ∀ a, a < 6 → ∀ b, b < 6 → a ≠ b → (T_R a).2.1 ≠ (T_R b).2.1 := by decide +kernel
theorem tyok_R : ∀ k, k < 6 → parseFieldDescriptor (T_R k).2.2.1 = some (ty_R k) := by decide +kernel
def T_M : u_T := fun k => match k with
  | 0 => ("ReleaseRowsModel", "thrown", "I", false)
  | 1 => ("ReleaseRowsModel", "now", "I", false)
  | 2 => ("ReleaseRowsModel", "span", "I", false)
  | 3 => ("ReleaseRowsModel", "units", "I", false)
  | 4 => ("ReleaseRowsModel", "home", "[I", true)
  | 5 => ("ReleaseRowsModel", "cleaning", "[I", true)
  | 6 => ("ReleaseRowsModel", "refilling", "[I", true)
  | 7 => ("ReleaseRowsModel", "must", "[I", true)
  | 8 => ("ReleaseRowsModel", "is", "[I", true)
  | 9 => ("ReleaseRowsModel", "with", "[I", true)
  | 10 => ("ReleaseRowsModel", "since", "[I", true)
  | 11 => ("ReleaseRowsModel", "done", "[I", true)
  | 12 => ("ReleaseRowsModel", "sent", "[I", true)
  | 13 => ("ReleaseRowsModel", "used", "[I", true)
  | 14 => ("ReleaseRowsModel", "stock", "[I", true)
  | 15 => ("ReleaseRowsModel", "incidents", "I", false)
  | 16 => ("ReleaseRowsModel", "place", "[I", true)
  | 17 => ("ReleaseRowsModel", "open", "[Z", true)
  | 18 => ("ReleaseRowsModel", "had", "[Z", true)
  | 19 => ("ReleaseRowsModel", "rows", "[I", true)
  | 20 => ("ReleaseRowsModel", "inside", "[I", true)
  | 21 => ("ReleaseRowsModel", "watch", "[I", true)
  | 22 => ("ReleaseRowsModel", "opened", "[I", true)
  | 23 => ("ReleaseRowsModel", "closes", "[I", true)
  | 24 => ("ReleaseRowsModel", "closedAt", "[I", true)
  | 25 => ("ReleaseRowsModel", "waits", "I", false)
  | _ => ("ReleaseRowsModel", "waiting", "[I", true)
def ty_M : Nat → FieldType := fun k => match k with
  | 0 => .int
  | 1 => .int
  | 2 => .int
  | 3 => .int
  | 4 => .array .int
  | 5 => .array .int
  | 6 => .array .int
  | 7 => .array .int
  | 8 => .array .int
  | 9 => .array .int
  | 10 => .array .int
  | 11 => .array .int
  | 12 => .array .int
  | 13 => .array .int
  | 14 => .array .int
  | 15 => .int
  | 16 => .array .int
  | 17 => .array .boolean
  | 18 => .array .boolean
  | 19 => .array .int
  | 20 => .array .int
  | 21 => .array .int
  | 22 => .array .int
  | 23 => .array .int
  | 24 => .array .int
  | 25 => .int
  | _ => .array .int
theorem nm_M : ∀ a, a < 27 → ∀ b, b < 27 → a ≠ b → (T_M a).2.1 ≠ (T_M b).2.1 := by decide +kernel
theorem tyok_M : ∀ k, k < 27 → parseFieldDescriptor (T_M k).2.2.1 = some (ty_M k) := by decide +kernel
abbrev vwCl : List vw_C := [("ReleaseRows$IncidentRows", T_I, 10), ("ReleaseRows$UnitRows", T_U, 11), ("ReleaseRows$WaitingRow", T_W, 2), ("ReleaseRows", T_R, 6), ("ReleaseRowsModel", T_M, 27)]
abbrev b_R_init : ByteArray := prog_1_method_1_code
abbrev y_R_init : MethodName := ⟨"ReleaseRows", "<init>", "()V"⟩
def w_R_init : List Cond := .code y_R_init b_R_init 1 none :: gG
abbrev b_R_unit : ByteArray := prog_1_method_2_code
abbrev y_R_unit : MethodName := ⟨"ReleaseRows", "unit", "(IIII)I"⟩
def w_R_unit : List Cond := .code y_R_unit b_R_unit 6 (some .int) :: gG
abbrev b_R_home : ByteArray := prog_1_method_3_code
abbrev y_R_home : MethodName := ⟨"ReleaseRows", "home", "(II)V"⟩
def w_R_home : List Cond := .code y_R_home b_R_home 3 none :: gG
abbrev b_R_span : ByteArray := prog_1_method_4_code
abbrev y_R_span : MethodName := ⟨"ReleaseRows", "span", "(I)V"⟩
def w_R_span : List Cond := .code y_R_span b_R_span 2 none :: gG
abbrev b_R_call : ByteArray := prog_1_method_5_code
abbrev y_R_call : MethodName := ⟨"ReleaseRows", "call", "(IZ)I"⟩
def w_R_call : List Cond := .code y_R_call b_R_call 4 (some .int) :: gG
abbrev b_R_send : ByteArray := prog_1_method_6_code
abbrev y_R_send : MethodName := ⟨"ReleaseRows", "send", "(II)V"⟩
def w_R_send : List Cond := .code y_R_send b_R_send 3 none :: gG
abbrev b_R_release : ByteArray := prog_1_method_7_code
abbrev y_R_release : MethodName := ⟨"ReleaseRows", "release", "(II)I"⟩
def w_R_release : List Cond := .code y_R_release b_R_release 6 (some .int) :: gG
abbrev b_R_back : ByteArray := prog_1_method_8_code
abbrev y_R_back : MethodName := ⟨"ReleaseRows", "back", "(I)V"⟩
def w_R_back : List Cond := .code y_R_back b_R_back 2 none :: gG
abbrev b_R_use : ByteArray := prog_1_method_9_code
abbrev y_R_use : MethodName := ⟨"ReleaseRows", "use", "(III)I"⟩
def w_R_use : List Cond := .code y_R_use b_R_use 5 (some .int) :: gG
abbrev b_R_deliver : ByteArray := prog_1_method_10_code
abbrev y_R_deliver : MethodName := ⟨"ReleaseRows", "deliver", "(II)I"⟩
def w_R_deliver : List Cond := .code y_R_deliver b_R_deliver 4 (some .int) :: gG
abbrev b_R_check : ByteArray := prog_1_method_11_code
abbrev y_R_check : MethodName := ⟨"ReleaseRows", "check", "(II)V"⟩
def w_R_check : List Cond := .code y_R_check b_R_check 3 none :: gG
abbrev b_R_inside : ByteArray := prog_1_method_12_code
abbrev y_R_inside : MethodName := ⟨"ReleaseRows", "inside", "(II)V"⟩
def w_R_inside : List Cond := .code y_R_inside b_R_inside 3 none :: gG
abbrev b_R_report : ByteArray := prog_1_method_13_code
abbrev y_R_report : MethodName := ⟨"ReleaseRows", "report", "(II)V"⟩
def w_R_report : List Cond := .code y_R_report b_R_report 3 none :: gG
abbrev b_R_watch : ByteArray := prog_1_method_14_code
abbrev y_R_watch : MethodName := ⟨"ReleaseRows", "watch", "(II)V"⟩
def w_R_watch : List Cond := .code y_R_watch b_R_watch 3 none :: gG
abbrev b_R_tick : ByteArray := prog_1_method_15_code
abbrev y_R_tick : MethodName := ⟨"ReleaseRows", "tick", "(I)I"⟩
def w_R_tick : List Cond := .code y_R_tick b_R_tick 5 (some .int) :: gG
abbrev b_R_unitAt : ByteArray := prog_1_method_16_code
abbrev y_R_unitAt : MethodName := ⟨"ReleaseRows", "unitAt", "(II)I"⟩
def w_R_unitAt : List Cond := .code y_R_unitAt b_R_unitAt 3 (some .int) :: gG
abbrev b_R_incidentAt : ByteArray := prog_1_method_17_code
abbrev y_R_incidentAt : MethodName := ⟨"ReleaseRows", "incidentAt", "(II)I"⟩
def w_R_incidentAt : List Cond := .code y_R_incidentAt b_R_incidentAt 3 (some .int) :: gG
abbrev b_R_count : ByteArray := prog_1_method_18_code
abbrev y_R_count : MethodName := ⟨"ReleaseRows", "count", "(I)I"⟩
def w_R_count : List Cond := .code y_R_count b_R_count 2 (some .int) :: gG
abbrev b_R_needKnown : ByteArray := prog_1_method_19_code
abbrev y_R_needKnown : MethodName := ⟨"ReleaseRows", "needKnown", "(Z)V"⟩
def w_R_needKnown : List Cond := .code y_R_needKnown b_R_needKnown 1 none :: gG
abbrev b_R_needRange : ByteArray := prog_1_method_20_code
abbrev y_R_needRange : MethodName := ⟨"ReleaseRows", "needRange", "(III)V"⟩
def w_R_needRange : List Cond := .code y_R_needRange b_R_needRange 3 none :: gG
abbrev b_R_needState : ByteArray := prog_1_method_21_code
abbrev y_R_needState : MethodName := ⟨"ReleaseRows", "needState", "(Z)V"⟩
def w_R_needState : List Cond := .code y_R_needState b_R_needState 1 none :: gG
abbrev b_R_needRoom : ByteArray := prog_1_method_22_code
abbrev y_R_needRoom : MethodName := ⟨"ReleaseRows", "needRoom", "(Z)V"⟩
def w_R_needRoom : List Cond := .code y_R_needRoom b_R_needRoom 1 none :: gG
abbrev b_R_isGood : ByteArray := prog_1_method_23_code
abbrev y_R_isGood : MethodName := ⟨"ReleaseRows", "isGood", "(I)Z"⟩
def w_R_isGood : List Cond := .code y_R_isGood b_R_isGood 1 (some .boolean) :: gG
abbrev b_R_isPast : ByteArray := prog_1_method_24_code
abbrev y_R_isPast : MethodName := ⟨"ReleaseRows", "isPast", "(I)Z"⟩
def w_R_isPast : List Cond := .code y_R_isPast b_R_isPast 2 (some .boolean) :: gG
abbrev b_R_bring : ByteArray := prog_1_method_25_code
abbrev y_R_bring : MethodName := ⟨"ReleaseRows", "bring", "(II)V"⟩
def w_R_bring : List Cond := .code y_R_bring b_R_bring 3 none :: gG
abbrev b_R_settle : ByteArray := prog_1_method_26_code
abbrev y_R_settle : MethodName := ⟨"ReleaseRows", "settle", "()I"⟩
def w_R_settle : List Cond := .code y_R_settle b_R_settle 2 (some .int) :: gG
abbrev b_R_giveUnitsToCalls : ByteArray := prog_1_method_27_code
abbrev y_R_giveUnitsToCalls : MethodName := ⟨"ReleaseRows", "giveUnitsToCalls", "()V"⟩
def w_R_giveUnitsToCalls : List Cond := .code y_R_giveUnitsToCalls b_R_giveUnitsToCalls 3 none :: gG
abbrev b_R_closeIncidents : ByteArray := prog_1_method_28_code
abbrev y_R_closeIncidents : MethodName := ⟨"ReleaseRows", "closeIncidents", "()I"⟩
def w_R_closeIncidents : List Cond := .code y_R_closeIncidents b_R_closeIncidents 3 (some .int) :: gG
abbrev b_R_nextChange : ByteArray := prog_1_method_29_code
abbrev y_R_nextChange : MethodName := ⟨"ReleaseRows", "nextChange", "(I)I"⟩
def w_R_nextChange : List Cond := .code y_R_nextChange b_R_nextChange 4 (some .int) :: gG
abbrev b_R_earlierAhead : ByteArray := prog_1_method_30_code
abbrev y_R_earlierAhead : MethodName := ⟨"ReleaseRows", "earlierAhead", "(II)I"⟩
def w_R_earlierAhead : List Cond := .code y_R_earlierAhead b_R_earlierAhead 3 (some .int) :: gG
abbrev b_M_init : ByteArray := prog_6_method_1_code
abbrev y_M_init : MethodName := ⟨"ReleaseRowsModel", "<init>", "()V"⟩
def w_M_init : List Cond := .code y_M_init b_M_init 1 none :: gG
abbrev b_M_thrown : ByteArray := prog_6_method_2_code
abbrev y_M_thrown : MethodName := ⟨"ReleaseRowsModel", "thrown", "()I"⟩
def w_M_thrown : List Cond := .code y_M_thrown b_M_thrown 1 (some .int) :: gG
abbrev b_M_throwing : ByteArray := prog_6_method_3_code
abbrev y_M_throwing : MethodName := ⟨"ReleaseRowsModel", "throwing", "(ZZZZ)Z"⟩
def w_M_throwing : List Cond := .code y_M_throwing b_M_throwing 5 (some .boolean) :: gG
abbrev b_M_in : ByteArray := prog_6_method_4_code
abbrev y_M_in : MethodName := ⟨"ReleaseRowsModel", "in", "(III)Z"⟩
def w_M_in : List Cond := .code y_M_in b_M_in 3 (some .boolean) :: gG
abbrev b_M_isUnit : ByteArray := prog_6_method_5_code
abbrev y_M_isUnit : MethodName := ⟨"ReleaseRowsModel", "isUnit", "(I)Z"⟩
def w_M_isUnit : List Cond := .code y_M_isUnit b_M_isUnit 2 (some .boolean) :: gG
abbrev b_M_isIncident : ByteArray := prog_6_method_6_code
abbrev y_M_isIncident : MethodName := ⟨"ReleaseRowsModel", "isIncident", "(I)Z"⟩
def w_M_isIncident : List Cond := .code y_M_isIncident b_M_isIncident 2 (some .boolean) :: gG
abbrev b_M_isShut : ByteArray := prog_6_method_7_code
abbrev y_M_isShut : MethodName := ⟨"ReleaseRowsModel", "isShut", "(I)Z"⟩
def w_M_isShut : List Cond := .code y_M_isShut b_M_isShut 2 (some .boolean) :: gG
abbrev b_M_isGood : ByteArray := prog_6_method_8_code
abbrev y_M_isGood : MethodName := ⟨"ReleaseRowsModel", "isGood", "(I)Z"⟩
def w_M_isGood : List Cond := .code y_M_isGood b_M_isGood 1 (some .boolean) :: gG
abbrev b_M_unit : ByteArray := prog_6_method_9_code
abbrev y_M_unit : MethodName := ⟨"ReleaseRowsModel", "unit", "(IIII)I"⟩
def w_M_unit : List Cond := .code y_M_unit b_M_unit 6 (some .int) :: gG
abbrev b_M_home : ByteArray := prog_6_method_10_code
abbrev y_M_home : MethodName := ⟨"ReleaseRowsModel", "home", "(II)V"⟩
def w_M_home : List Cond := .code y_M_home b_M_home 3 none :: gG
abbrev b_M_span : ByteArray := prog_6_method_11_code
abbrev y_M_span : MethodName := ⟨"ReleaseRowsModel", "span", "(I)V"⟩
def w_M_span : List Cond := .code y_M_span b_M_span 2 none :: gG
abbrev b_M_become : ByteArray := prog_6_method_12_code
abbrev y_M_become : MethodName := ⟨"ReleaseRowsModel", "become", "(III)V"⟩
def w_M_become : List Cond := .code y_M_become b_M_become 4 none :: gG
abbrev b_M_hasStock : ByteArray := prog_6_method_13_code
abbrev y_M_hasStock : MethodName := ⟨"ReleaseRowsModel", "hasStock", "(I)Z"⟩
def w_M_hasStock : List Cond := .code y_M_hasStock b_M_hasStock 4 (some .boolean) :: gG
abbrev b_M_goesOn : ByteArray := prog_6_method_14_code
abbrev y_M_goesOn : MethodName := ⟨"ReleaseRowsModel", "goesOn", "(I)Z"⟩
def w_M_goesOn : List Cond := .code y_M_goesOn b_M_goesOn 3 (some .boolean) :: gG
abbrev b_M_put : ByteArray := prog_6_method_15_code
abbrev y_M_put : MethodName := ⟨"ReleaseRowsModel", "put", "(II)V"⟩
def w_M_put : List Cond := .code y_M_put b_M_put 3 none :: gG
abbrev b_M_nearest : ByteArray := prog_6_method_16_code
abbrev y_M_nearest : MethodName := ⟨"ReleaseRowsModel", "nearest", "()I"⟩
def w_M_nearest : List Cond := .code y_M_nearest b_M_nearest 3 (some .int) :: gG
abbrev b_M_serves : ByteArray := prog_6_method_17_code
abbrev y_M_serves : MethodName := ⟨"ReleaseRowsModel", "serves", "()Z"⟩
def w_M_serves : List Cond := .code y_M_serves b_M_serves 3 (some .boolean) :: gG
abbrev b_M_there : ByteArray := prog_6_method_18_code
abbrev y_M_there : MethodName := ⟨"ReleaseRowsModel", "there", "(I)I"⟩
def w_M_there : List Cond := .code y_M_there b_M_there 4 (some .int) :: gG
abbrev b_M_waitingFor : ByteArray := prog_6_method_19_code
abbrev y_M_waitingFor : MethodName := ⟨"ReleaseRowsModel", "waitingFor", "(I)I"⟩
def w_M_waitingFor : List Cond := .code y_M_waitingFor b_M_waitingFor 4 (some .int) :: gG
abbrev b_M_ends : ByteArray := prog_6_method_20_code
abbrev y_M_ends : MethodName := ⟨"ReleaseRowsModel", "ends", "(I)Z"⟩
def w_M_ends : List Cond := .code y_M_ends b_M_ends 2 (some .boolean) :: gG
abbrev b_M_settle : ByteArray := prog_6_method_21_code
abbrev y_M_settle : MethodName := ⟨"ReleaseRowsModel", "settle", "()I"⟩
def w_M_settle : List Cond := .code y_M_settle b_M_settle 4 (some .int) :: gG
abbrev b_M_tick : ByteArray := prog_6_method_22_code
abbrev y_M_tick : MethodName := ⟨"ReleaseRowsModel", "tick", "(I)I"⟩
def w_M_tick : List Cond := .code y_M_tick b_M_tick 4 (some .int) :: gG
abbrev b_M_found : ByteArray := prog_6_method_23_code
abbrev y_M_found : MethodName := ⟨"ReleaseRowsModel", "found", "(IZ)I"⟩
def w_M_found : List Cond := .code y_M_found b_M_found 6 (some .int) :: gG
abbrev b_M_call : ByteArray := prog_6_method_24_code
abbrev y_M_call : MethodName := ⟨"ReleaseRowsModel", "call", "(IZ)I"⟩
def w_M_call : List Cond := .code y_M_call b_M_call 7 (some .int) :: gG
abbrev b_M_send : ByteArray := prog_6_method_25_code
abbrev y_M_send : MethodName := ⟨"ReleaseRowsModel", "send", "(II)V"⟩
def w_M_send : List Cond := .code y_M_send b_M_send 4 none :: gG
abbrev b_M_release : ByteArray := prog_6_method_26_code
abbrev y_M_release : MethodName := ⟨"ReleaseRowsModel", "release", "(II)I"⟩
def w_M_release : List Cond := .code y_M_release b_M_release 6 (some .int) :: gG
abbrev b_M_back : ByteArray := prog_6_method_27_code
abbrev y_M_back : MethodName := ⟨"ReleaseRowsModel", "back", "(I)V"⟩
def w_M_back : List Cond := .code y_M_back b_M_back 3 none :: gG
abbrev b_M_use : ByteArray := prog_6_method_28_code
abbrev y_M_use : MethodName := ⟨"ReleaseRowsModel", "use", "(III)I"⟩
def w_M_use : List Cond := .code y_M_use b_M_use 7 (some .int) :: gG
abbrev b_M_deliver : ByteArray := prog_6_method_29_code
abbrev y_M_deliver : MethodName := ⟨"ReleaseRowsModel", "deliver", "(II)I"⟩
def w_M_deliver : List Cond := .code y_M_deliver b_M_deliver 6 (some .int) :: gG
abbrev b_M_check : ByteArray := prog_6_method_30_code
abbrev y_M_check : MethodName := ⟨"ReleaseRowsModel", "check", "(II)V"⟩
def w_M_check : List Cond := .code y_M_check b_M_check 4 none :: gG
abbrev b_M_inside : ByteArray := prog_6_method_31_code
abbrev y_M_inside : MethodName := ⟨"ReleaseRowsModel", "inside", "(II)V"⟩
def w_M_inside : List Cond := .code y_M_inside b_M_inside 3 none :: gG
abbrev b_M_report : ByteArray := prog_6_method_32_code
abbrev y_M_report : MethodName := ⟨"ReleaseRowsModel", "report", "(II)V"⟩
def w_M_report : List Cond := .code y_M_report b_M_report 4 none :: gG
abbrev b_M_watch : ByteArray := prog_6_method_33_code
abbrev y_M_watch : MethodName := ⟨"ReleaseRowsModel", "watch", "(II)V"⟩
def w_M_watch : List Cond := .code y_M_watch b_M_watch 3 none :: gG
abbrev b_M_unitAt : ByteArray := prog_6_method_34_code
abbrev y_M_unitAt : MethodName := ⟨"ReleaseRowsModel", "unitAt", "(II)I"⟩
def w_M_unitAt : List Cond := .code y_M_unitAt b_M_unitAt 3 (some .int) :: gG
abbrev b_M_incidentAt : ByteArray := prog_6_method_35_code
abbrev y_M_incidentAt : MethodName := ⟨"ReleaseRowsModel", "incidentAt", "(II)I"⟩
def w_M_incidentAt : List Cond := .code y_M_incidentAt b_M_incidentAt 3 (some .int) :: gG
abbrev b_M_count : ByteArray := prog_6_method_36_code
abbrev y_M_count : MethodName := ⟨"ReleaseRowsModel", "count", "(I)I"⟩
def w_M_count : List Cond := .code y_M_count b_M_count 4 (some .int) :: gG
abbrev b_I_init : ByteArray := prog_2_method_1_code
abbrev y_I_init : MethodName := ⟨"ReleaseRows$IncidentRows", "<init>", "()V"⟩
def w_I_init : List Cond := .code y_I_init b_I_init 1 none :: gG
abbrev b_I_has : ByteArray := prog_2_method_2_code
abbrev y_I_has : MethodName := ⟨"ReleaseRows$IncidentRows", "has", "(I)Z"⟩
def w_I_has : List Cond := .code y_I_has b_I_has 2 (some .boolean) :: gG
abbrev b_I_addIncident : ByteArray := prog_2_method_3_code
abbrev y_I_addIncident : MethodName := ⟨"ReleaseRows$IncidentRows", "addIncident", "(I)I"⟩
def w_I_addIncident : List Cond := .code y_I_addIncident b_I_addIncident 3 (some .int) :: gG
abbrev b_I_latestOf : ByteArray := prog_2_method_4_code
abbrev y_I_latestOf : MethodName := ⟨"ReleaseRows$IncidentRows", "latestOf", "(I)I"⟩
def w_I_latestOf : List Cond := .code y_I_latestOf b_I_latestOf 3 (some .int) :: gG
abbrev b_I_open : ByteArray := prog_2_method_5_code
abbrev y_I_open : MethodName := ⟨"ReleaseRows$IncidentRows", "open", "(I)V"⟩
def w_I_open : List Cond := .code y_I_open b_I_open 2 none :: gG
abbrev b_I_close : ByteArray := prog_2_method_6_code
abbrev y_I_close : MethodName := ⟨"ReleaseRows$IncidentRows", "close", "(II)V"⟩
def w_I_close : List Cond := .code y_I_close b_I_close 3 none :: gG
abbrev b_I_mayClose : ByteArray := prog_2_method_7_code
abbrev y_I_mayClose : MethodName := ⟨"ReleaseRows$IncidentRows", "mayClose", "(II)Z"⟩
def w_I_mayClose : List Cond := .code y_I_mayClose b_I_mayClose 3 (some .boolean) :: gG
abbrev b_I_isOpenPastWatch : ByteArray := prog_2_method_8_code
abbrev y_I_isOpenPastWatch : MethodName := ⟨"ReleaseRows$IncidentRows", "isOpenPastWatch", "(II)Z"⟩
def w_I_isOpenPastWatch : List Cond := .code y_I_isOpenPastWatch b_I_isOpenPastWatch 3 (some .boolean) :: gG
abbrev b_I_countOpen : ByteArray := prog_2_method_9_code
abbrev y_I_countOpen : MethodName := ⟨"ReleaseRows$IncidentRows", "countOpen", "()I"⟩
def w_I_countOpen : List Cond := .code y_I_countOpen b_I_countOpen 3 (some .int) :: gG
abbrev b_U_init : ByteArray := prog_3_method_1_code
abbrev y_U_init : MethodName := ⟨"ReleaseRows$UnitRows", "<init>", "()V"⟩
def w_U_init : List Cond := .code y_U_init b_U_init 1 none :: gG
abbrev b_U_has : ByteArray := prog_3_method_2_code
abbrev y_U_has : MethodName := ⟨"ReleaseRows$UnitRows", "has", "(I)Z"⟩
def w_U_has : List Cond := .code y_U_has b_U_has 2 (some .boolean) :: gG
abbrev b_U_addUnit : ByteArray := prog_3_method_3_code
abbrev y_U_addUnit : MethodName := ⟨"ReleaseRows$UnitRows", "addUnit", "(II)I"⟩
def w_U_addUnit : List Cond := .code y_U_addUnit b_U_addUnit 4 (some .int) :: gG
abbrev b_U_setWork : ByteArray := prog_3_method_4_code
abbrev y_U_setWork : MethodName := ⟨"ReleaseRows$UnitRows", "setWork", "(IIII)V"⟩
def w_U_setWork : List Cond := .code y_U_setWork b_U_setWork 5 none :: gG
abbrev b_U_become : ByteArray := prog_3_method_5_code
abbrev y_U_become : MethodName := ⟨"ReleaseRows$UnitRows", "become", "(III)V"⟩
def w_U_become : List Cond := .code y_U_become b_U_become 4 none :: gG
abbrev b_U_goTo : ByteArray := prog_3_method_6_code
abbrev y_U_goTo : MethodName := ⟨"ReleaseRows$UnitRows", "goTo", "(III)V"⟩
def w_U_goTo : List Cond := .code y_U_goTo b_U_goTo 4 none :: gG
abbrev b_U_goOn : ByteArray := prog_3_method_7_code
abbrev y_U_goOn : MethodName := ⟨"ReleaseRows$UnitRows", "goOn", "(I[II)V"⟩
def w_U_goOn : List Cond := .code y_U_goOn b_U_goOn 4 none :: gG
abbrev b_U_workEnd : ByteArray := prog_3_method_8_code
abbrev y_U_workEnd : MethodName := ⟨"ReleaseRows$UnitRows", "workEnd", "(I)I"⟩
def w_U_workEnd : List Cond := .code y_U_workEnd b_U_workEnd 2 (some .int) :: gG
abbrev b_U_checksToDo : ByteArray := prog_3_method_9_code
abbrev y_U_checksToDo : MethodName := ⟨"ReleaseRows$UnitRows", "checksToDo", "(I)I"⟩
def w_U_checksToDo : List Cond := .code y_U_checksToDo b_U_checksToDo 2 (some .int) :: gG
abbrev b_U_nearestReady : ByteArray := prog_3_method_10_code
abbrev y_U_nearestReady : MethodName := ⟨"ReleaseRows$UnitRows", "nearestReady", "()I"⟩
def w_U_nearestReady : List Cond := .code y_U_nearestReady b_U_nearestReady 3 (some .int) :: gG
abbrev b_U_farthestAt : ByteArray := prog_3_method_11_code
abbrev y_U_farthestAt : MethodName := ⟨"ReleaseRows$UnitRows", "farthestAt", "(I)I"⟩
def w_U_farthestAt : List Cond := .code y_U_farthestAt b_U_farthestAt 4 (some .int) :: gG
abbrev b_U_countAt : ByteArray := prog_3_method_12_code
abbrev y_U_countAt : MethodName := ⟨"ReleaseRows$UnitRows", "countAt", "(I)I"⟩
def w_U_countAt : List Cond := .code y_U_countAt b_U_countAt 4 (some .int) :: gG
abbrev b_U_countReady : ByteArray := prog_3_method_13_code
abbrev y_U_countReady : MethodName := ⟨"ReleaseRows$UnitRows", "countReady", "()I"⟩
def w_U_countReady : List Cond := .code y_U_countReady b_U_countReady 3 (some .int) :: gG
abbrev b_U_canRefill : ByteArray := prog_3_method_14_code
abbrev y_U_canRefill : MethodName := ⟨"ReleaseRows$UnitRows", "canRefill", "(I[I)Z"⟩
def w_U_canRefill : List Cond := .code y_U_canRefill b_U_canRefill 4 (some .boolean) :: gG
abbrev b_U_refill : ByteArray := prog_3_method_15_code
abbrev y_U_refill : MethodName := ⟨"ReleaseRows$UnitRows", "refill", "(I[I)V"⟩
def w_U_refill : List Cond := .code y_U_refill b_U_refill 4 none :: gG
abbrev b_W_init : ByteArray := prog_4_method_1_code
abbrev y_W_init : MethodName := ⟨"ReleaseRows$WaitingRow", "<init>", "()V"⟩
def w_W_init : List Cond := .code y_W_init b_W_init 1 none :: gG
abbrev b_W_addLast : ByteArray := prog_4_method_2_code
abbrev y_W_addLast : MethodName := ⟨"ReleaseRows$WaitingRow", "addLast", "(I)V"⟩
def w_W_addLast : List Cond := .code y_W_addLast b_W_addLast 2 none :: gG
abbrev b_W_takeFirst : ByteArray := prog_4_method_3_code
abbrev y_W_takeFirst : MethodName := ⟨"ReleaseRows$WaitingRow", "takeFirst", "()I"⟩
def w_W_takeFirst : List Cond := .code y_W_takeFirst b_W_takeFirst 2 (some .int) :: gG
abbrev b_W_countFor : ByteArray := prog_4_method_4_code
abbrev y_W_countFor : MethodName := ⟨"ReleaseRows$WaitingRow", "countFor", "(I)I"⟩
def w_W_countFor : List Cond := .code y_W_countFor b_W_countFor 4 (some .int) :: gG
abbrev b_L_unit : ByteArray := method_3_code
abbrev y_L_unit : MethodName := ⟨"ReleaseRowsLaw", "unit", "(LReleaseRows;IIII[J)I"⟩
def w_L_unit : List Cond := .codeWith y_L_unit b_L_unit 7 (some .int) [(0, 14, 17, 13), (0, 14, 21, 15)] :: gG
abbrev b_L_home : ByteArray := method_4_code
abbrev y_L_home : MethodName := ⟨"ReleaseRowsLaw", "home", "(LReleaseRows;II)I"⟩
def w_L_home : List Cond := .codeWith y_L_home b_L_home 4 (some .int) [(0, 6, 9, 21), (0, 6, 12, 13)] :: gG
abbrev b_L_span : ByteArray := method_5_code
abbrev y_L_span : MethodName := ⟨"ReleaseRowsLaw", "span", "(LReleaseRows;I)I"⟩
def w_L_span : List Cond := .codeWith y_L_span b_L_span 3 (some .int) [(0, 5, 8, 13)] :: gG
abbrev b_L_call : ByteArray := method_6_code
abbrev y_L_call : MethodName := ⟨"ReleaseRowsLaw", "call", "(LReleaseRows;IZ[J)I"⟩
def w_L_call : List Cond := .codeWith y_L_call b_L_call 5 (some .int) [(0, 10, 13, 13), (0, 10, 17, 15)] :: gG
abbrev b_L_send : ByteArray := method_7_code
abbrev y_L_send : MethodName := ⟨"ReleaseRowsLaw", "send", "(LReleaseRows;II)I"⟩
def w_L_send : List Cond := .codeWith y_L_send b_L_send 4 (some .int) [(0, 6, 9, 21), (0, 6, 12, 34)] :: gG
abbrev b_L_release : ByteArray := method_8_code
abbrev y_L_release : MethodName := ⟨"ReleaseRowsLaw", "release", "(LReleaseRows;II[J)I"⟩
def w_L_release : List Cond := .codeWith y_L_release b_L_release 5 (some .int) [(0, 10, 13, 21), (0, 10, 17, 13), (0, 10, 21, 34)] :: gG
abbrev b_L_back : ByteArray := method_9_code
abbrev y_L_back : MethodName := ⟨"ReleaseRowsLaw", "back", "(LReleaseRows;I)I"⟩
def w_L_back : List Cond := .codeWith y_L_back b_L_back 3 (some .int) [(0, 5, 8, 21), (0, 5, 11, 34)] :: gG
abbrev b_L_use : ByteArray := method_10_code
abbrev y_L_use : MethodName := ⟨"ReleaseRowsLaw", "use", "(LReleaseRows;III[J)I"⟩
def w_L_use : List Cond := .codeWith y_L_use b_L_use 6 (some .int) [(0, 12, 15, 21), (0, 12, 19, 13), (0, 12, 23, 34), (0, 12, 27, 15)] :: gG
abbrev b_L_deliver : ByteArray := method_11_code
abbrev y_L_deliver : MethodName := ⟨"ReleaseRowsLaw", "deliver", "(LReleaseRows;II[J)I"⟩
def w_L_deliver : List Cond := .codeWith y_L_deliver b_L_deliver 5 (some .int) [(0, 10, 13, 21), (0, 10, 17, 13), (0, 10, 21, 15)] :: gG
abbrev b_L_check : ByteArray := method_12_code
abbrev y_L_check : MethodName := ⟨"ReleaseRowsLaw", "check", "(LReleaseRows;II)I"⟩
def w_L_check : List Cond := .codeWith y_L_check b_L_check 4 (some .int) [(0, 6, 9, 21), (0, 6, 12, 13), (0, 6, 15, 34)] :: gG
abbrev b_L_inside : ByteArray := method_13_code
abbrev y_L_inside : MethodName := ⟨"ReleaseRowsLaw", "inside", "(LReleaseRows;II)I"⟩
def w_L_inside : List Cond := .codeWith y_L_inside b_L_inside 4 (some .int) [(0, 6, 9, 21), (0, 6, 12, 13), (0, 6, 15, 34)] :: gG
abbrev b_L_report : ByteArray := method_14_code
abbrev y_L_report : MethodName := ⟨"ReleaseRowsLaw", "report", "(LReleaseRows;II)I"⟩
def w_L_report : List Cond := .codeWith y_L_report b_L_report 4 (some .int) [(0, 6, 9, 21), (0, 6, 12, 34)] :: gG
abbrev b_L_watch : ByteArray := method_15_code
abbrev y_L_watch : MethodName := ⟨"ReleaseRowsLaw", "watch", "(LReleaseRows;II)I"⟩
def w_L_watch : List Cond := .codeWith y_L_watch b_L_watch 4 (some .int) [(0, 6, 9, 21), (0, 6, 12, 13), (0, 6, 15, 34)] :: gG
abbrev b_L_tick : ByteArray := method_16_code
abbrev y_L_tick : MethodName := ⟨"ReleaseRowsLaw", "tick", "(LReleaseRows;I[J)I"⟩
def w_L_tick : List Cond := .codeWith y_L_tick b_L_tick 4 (some .int) [(0, 9, 12, 13)] :: gG
abbrev b_L_unitAt : ByteArray := method_17_code
abbrev y_L_unitAt : MethodName := ⟨"ReleaseRowsLaw", "unitAt", "(LReleaseRows;II[J)I"⟩
def w_L_unitAt : List Cond := .codeWith y_L_unitAt b_L_unitAt 5 (some .int) [(0, 10, 13, 21)] :: gG
abbrev b_L_incidentAt : ByteArray := method_18_code
abbrev y_L_incidentAt : MethodName := ⟨"ReleaseRowsLaw", "incidentAt", "(LReleaseRows;II[J)I"⟩
def w_L_incidentAt : List Cond := .codeWith y_L_incidentAt b_L_incidentAt 5 (some .int) [(0, 10, 13, 21)] :: gG
abbrev b_L_count : ByteArray := method_19_code
abbrev y_L_count : MethodName := ⟨"ReleaseRowsLaw", "count", "(LReleaseRows;I[J)I"⟩
def w_L_count : List Cond := .codeWith y_L_count b_L_count 4 (some .int) [(0, 9, 12, 21)] :: gG
abbrev b_L_law : ByteArray := code
abbrev y_L_law : MethodName := ⟨"ReleaseRowsLaw", "law", "([I)Z"⟩
def w_L_law : List Cond := .code y_L_law b_L_law 7 (some .boolean) :: gG
end
section
theorem k_2 : Cond.selects "ReleaseRows$UnitRows" (⟨"ReleaseRows$UnitRows", "canRefill", "(I[I)Z"⟩ : MethodName) (⟨"ReleaseRows$UnitRows", "canRefill", "(I[I)Z"⟩ : MethodName) ∈ gG := x_k 2 (by decide +kernel) (by decide +kernel)
theorem k_3 : Cond.selects "ReleaseRows$UnitRows" (⟨"ReleaseRows$UnitRows", "refill", "(I[I)V"⟩ : MethodName) (⟨"ReleaseRows$UnitRows", "refill", "(I[I)V"⟩ : MethodName) ∈ gG := x_k 3 (by decide +kernel) (by decide +kernel)
theorem k_4 : Cond.selects "ReleaseRows" (⟨"ReleaseRows", "giveUnitsToCalls", "()V"⟩ : MethodName) (⟨"ReleaseRows", "giveUnitsToCalls", "()V"⟩ : MethodName) ∈ gG := x_k 4 (by decide +kernel) (by decide +kernel)
theorem k_5 : Cond.selects "ReleaseRows" (⟨"ReleaseRows", "bring", "(II)V"⟩ : MethodName) (⟨"ReleaseRows", "bring", "(II)V"⟩ : MethodName) ∈ gG := x_k 5 (by decide +kernel) (by decide +kernel)
theorem k_6 : Cond.selects "ReleaseRows" (⟨"ReleaseRows", "closeIncidents", "()I"⟩ : MethodName) (⟨"ReleaseRows", "closeIncidents", "()I"⟩ : MethodName) ∈ gG := x_k 6 (by decide +kernel) (by decide +kernel)
theorem k_9 : Cond.selects "ReleaseRows" (⟨"ReleaseRows", "earlierAhead", "(II)I"⟩ : MethodName) (⟨"ReleaseRows", "earlierAhead", "(II)I"⟩ : MethodName) ∈ gG := x_k 9 (by decide +kernel) (by decide +kernel)
theorem k_26 : Cond.initialized "ReleaseRows" ∈ gG := x_k 26 (by decide +kernel) (by decide +kernel)
theorem k_27 : Cond.initialized "ReleaseRows$UnitRows" ∈ gG := x_k 27 (by decide +kernel) (by decide +kernel)
theorem k_28 : Cond.initialized "ReleaseRows$IncidentRows" ∈ gG := x_k 28 (by decide +kernel) (by decide +kernel)
theorem k_29 : Cond.initialized "ReleaseRows$WaitingRow" ∈ gG := x_k 29 (by decide +kernel) (by decide +kernel)
theorem k_36 : Cond.initialized "java/lang/System" ∈ gG := x_k 36 (by decide +kernel) (by decide +kernel)
theorem k_45 : Cond.instanceMethod (⟨"java/lang/Object", "<init>", "()V"⟩ : MethodName) ∈ gG := x_k 45 (by decide +kernel) (by decide +kernel)
theorem k_46 : Cond.code (⟨"java/lang/Object", "<init>", "()V"⟩ : MethodName) ⟨#[0xb1]⟩ 1 none ∈ gG := x_k 46 (by decide +kernel) (by decide +kernel)
theorem k_52 : Cond.methodLink "ReleaseRows$UnitRows" 3 (⟨"java/lang/Object", "<init>", "()V"⟩ : MethodName) ∈ gG := x_k 52 (by decide +kernel) (by decide +kernel)
theorem k_53 : Cond.fieldLink "ReleaseRows$UnitRows" 9 "ReleaseRows$UnitRows" "home" "[I" ∈ gG := x_k 53 (by decide +kernel) (by decide +kernel)
theorem k_55 : Cond.fieldLink "ReleaseRows$UnitRows" 15 "ReleaseRows$UnitRows" "cleaning" "[I" ∈ gG := x_k 55 (by decide +kernel) (by decide +kernel)
theorem k_56 : Cond.fieldLink "ReleaseRows$UnitRows" 18 "ReleaseRows$UnitRows" "refilling" "[I" ∈ gG := x_k 56 (by decide +kernel) (by decide +kernel)
theorem k_57 : Cond.fieldLink "ReleaseRows$UnitRows" 21 "ReleaseRows$UnitRows" "checks" "[I" ∈ gG := x_k 57 (by decide +kernel) (by decide +kernel)
theorem k_58 : Cond.fieldLink "ReleaseRows$UnitRows" 24 "ReleaseRows$UnitRows" "checksDone" "[I" ∈ gG := x_k 58 (by decide +kernel) (by decide +kernel)
theorem k_60 : Cond.fieldLink "ReleaseRows$UnitRows" 27 "ReleaseRows$UnitRows" "is" "[I" ∈ gG := x_k 60 (by decide +kernel) (by decide +kernel)
theorem k_62 : Cond.fieldLink "ReleaseRows$UnitRows" 30 "ReleaseRows$UnitRows" "incident" "[I" ∈ gG := x_k 62 (by decide +kernel) (by decide +kernel)
theorem k_64 : Cond.fieldLink "ReleaseRows$UnitRows" 33 "ReleaseRows$UnitRows" "since" "[I" ∈ gG := x_k 64 (by decide +kernel) (by decide +kernel)
theorem k_66 : Cond.fieldLink "ReleaseRows$UnitRows" 36 "ReleaseRows$UnitRows" "timesSent" "[I" ∈ gG := x_k 66 (by decide +kernel) (by decide +kernel)
theorem k_68 : Cond.fieldLink "ReleaseRows$UnitRows" 39 "ReleaseRows$UnitRows" "used" "[I" ∈ gG := x_k 68 (by decide +kernel) (by decide +kernel)
theorem k_70 : Cond.fieldLink "ReleaseRows$UnitRows" 42 "ReleaseRows$UnitRows" "size" "I" ∈ gG := x_k 70 (by decide +kernel) (by decide +kernel)
theorem k_71 : Cond.fieldLink "ReleaseRows" 46 "ReleaseRows$UnitRows" "size" "I" ∈ gG := x_k 71 (by decide +kernel) (by decide +kernel)
theorem k_72 : Cond.laysFinal "ReleaseRows$UnitRows" "ReleaseRows$UnitRows" "home" "[I" ∈ gG := x_k 72 (by decide +kernel) (by decide +kernel)
theorem k_74 : Cond.laysFinal "ReleaseRows$UnitRows" "ReleaseRows$UnitRows" "cleaning" "[I" ∈ gG := x_k 74 (by decide +kernel) (by decide +kernel)
theorem k_76 : Cond.laysFinal "ReleaseRows$UnitRows" "ReleaseRows$UnitRows" "refilling" "[I" ∈ gG := x_k 76 (by decide +kernel) (by decide +kernel)
theorem k_78 : Cond.laysFinal "ReleaseRows$UnitRows" "ReleaseRows$UnitRows" "checks" "[I" ∈ gG := x_k 78 (by decide +kernel) (by decide +kernel)
theorem k_80 : Cond.laysFinal "ReleaseRows$UnitRows" "ReleaseRows$UnitRows" "checksDone" "[I" ∈ gG := x_k 80 (by decide +kernel) (by decide +kernel)
theorem k_82 : Cond.laysFinal "ReleaseRows$UnitRows" "ReleaseRows$UnitRows" "is" "[I" ∈ gG := x_k 82 (by decide +kernel) (by decide +kernel)
theorem k_84 : Cond.laysFinal "ReleaseRows$UnitRows" "ReleaseRows$UnitRows" "incident" "[I" ∈ gG := x_k 84 (by decide +kernel) (by decide +kernel)
theorem k_86 : Cond.laysFinal "ReleaseRows$UnitRows" "ReleaseRows$UnitRows" "since" "[I" ∈ gG := x_k 86 (by decide +kernel) (by decide +kernel)
theorem k_88 : Cond.laysFinal "ReleaseRows$UnitRows" "ReleaseRows$UnitRows" "timesSent" "[I" ∈ gG := x_k 88 (by decide +kernel) (by decide +kernel)
theorem k_90 : Cond.laysFinal "ReleaseRows$UnitRows" "ReleaseRows$UnitRows" "used" "[I" ∈ gG := x_k 90 (by decide +kernel) (by decide +kernel)
theorem k_92 : Cond.lays "ReleaseRows$UnitRows" "ReleaseRows$UnitRows" "size" "I" ∈ gG := x_k 92 (by decide +kernel) (by decide +kernel)
theorem k_95 : Cond.arrayClass .int ∈ gG := x_k 95 (by decide +kernel) (by decide +kernel)
theorem k_101 : Cond.methodLink "ReleaseRows$IncidentRows" 3 (⟨"java/lang/Object", "<init>", "()V"⟩ : MethodName) ∈ gG := x_k 101 (by decide +kernel) (by decide +kernel)
theorem k_102 : Cond.fieldLink "ReleaseRows$IncidentRows" 9 "ReleaseRows$IncidentRows" "place" "[I" ∈ gG := x_k 102 (by decide +kernel) (by decide +kernel)
theorem k_103 : Cond.fieldLink "ReleaseRows$IncidentRows" 15 "ReleaseRows$IncidentRows" "isOpen" "[Z" ∈ gG := x_k 103 (by decide +kernel) (by decide +kernel)
theorem k_104 : Cond.fieldLink "ReleaseRows" 88 "ReleaseRows$IncidentRows" "isOpen" "[Z" ∈ gG := x_k 104 (by decide +kernel) (by decide +kernel)
theorem k_105 : Cond.fieldLink "ReleaseRows$IncidentRows" 19 "ReleaseRows$IncidentRows" "unitWasThere" "[Z" ∈ gG := x_k 105 (by decide +kernel) (by decide +kernel)
theorem k_106 : Cond.fieldLink "ReleaseRows" 203 "ReleaseRows$IncidentRows" "unitWasThere" "[Z" ∈ gG := x_k 106 (by decide +kernel) (by decide +kernel)
theorem k_107 : Cond.fieldLink "ReleaseRows$IncidentRows" 22 "ReleaseRows$IncidentRows" "reportRows" "[I" ∈ gG := x_k 107 (by decide +kernel) (by decide +kernel)
theorem k_109 : Cond.fieldLink "ReleaseRows$IncidentRows" 25 "ReleaseRows$IncidentRows" "persons" "[I" ∈ gG := x_k 109 (by decide +kernel) (by decide +kernel)
theorem k_111 : Cond.fieldLink "ReleaseRows$IncidentRows" 28 "ReleaseRows$IncidentRows" "watchEnd" "[I" ∈ gG := x_k 111 (by decide +kernel) (by decide +kernel)
theorem k_112 : Cond.fieldLink "ReleaseRows" 133 "ReleaseRows$IncidentRows" "watchEnd" "[I" ∈ gG := x_k 112 (by decide +kernel) (by decide +kernel)
theorem k_113 : Cond.fieldLink "ReleaseRows$IncidentRows" 31 "ReleaseRows$IncidentRows" "timesOpened" "[I" ∈ gG := x_k 113 (by decide +kernel) (by decide +kernel)
theorem k_115 : Cond.fieldLink "ReleaseRows$IncidentRows" 34 "ReleaseRows$IncidentRows" "timesClosed" "[I" ∈ gG := x_k 115 (by decide +kernel) (by decide +kernel)
theorem k_117 : Cond.fieldLink "ReleaseRows$IncidentRows" 37 "ReleaseRows$IncidentRows" "closedAt" "[I" ∈ gG := x_k 117 (by decide +kernel) (by decide +kernel)
theorem k_118 : Cond.fieldLink "ReleaseRows" 170 "ReleaseRows$IncidentRows" "closedAt" "[I" ∈ gG := x_k 118 (by decide +kernel) (by decide +kernel)
theorem k_119 : Cond.fieldLink "ReleaseRows$IncidentRows" 40 "ReleaseRows$IncidentRows" "size" "I" ∈ gG := x_k 119 (by decide +kernel) (by decide +kernel)
theorem k_120 : Cond.fieldLink "ReleaseRows" 84 "ReleaseRows$IncidentRows" "size" "I" ∈ gG := x_k 120 (by decide +kernel) (by decide +kernel)
theorem k_121 : Cond.laysFinal "ReleaseRows$IncidentRows" "ReleaseRows$IncidentRows" "place" "[I" ∈ gG := x_k 121 (by decide +kernel) (by decide +kernel)
theorem k_123 : Cond.laysFinal "ReleaseRows$IncidentRows" "ReleaseRows$IncidentRows" "isOpen" "[Z" ∈ gG := x_k 123 (by decide +kernel) (by decide +kernel)
theorem k_125 : Cond.laysFinal "ReleaseRows$IncidentRows" "ReleaseRows$IncidentRows" "unitWasThere" "[Z" ∈ gG := x_k 125 (by decide +kernel) (by decide +kernel)
theorem k_127 : Cond.laysFinal "ReleaseRows$IncidentRows" "ReleaseRows$IncidentRows" "reportRows" "[I" ∈ gG := x_k 127 (by decide +kernel) (by decide +kernel)
theorem k_129 : Cond.laysFinal "ReleaseRows$IncidentRows" "ReleaseRows$IncidentRows" "persons" "[I" ∈ gG := x_k 129 (by decide +kernel) (by decide +kernel)
theorem k_131 : Cond.laysFinal "ReleaseRows$IncidentRows" "ReleaseRows$IncidentRows" "watchEnd" "[I" ∈ gG := x_k 131 (by decide +kernel) (by decide +kernel)
theorem k_133 : Cond.laysFinal "ReleaseRows$IncidentRows" "ReleaseRows$IncidentRows" "timesOpened" "[I" ∈ gG := x_k 133 (by decide +kernel) (by decide +kernel)
theorem k_135 : Cond.laysFinal "ReleaseRows$IncidentRows" "ReleaseRows$IncidentRows" "timesClosed" "[I" ∈ gG := x_k 135 (by decide +kernel) (by decide +kernel)
theorem k_137 : Cond.laysFinal "ReleaseRows$IncidentRows" "ReleaseRows$IncidentRows" "closedAt" "[I" ∈ gG := x_k 137 (by decide +kernel) (by decide +kernel)
theorem k_139 : Cond.lays "ReleaseRows$IncidentRows" "ReleaseRows$IncidentRows" "size" "I" ∈ gG := x_k 139 (by decide +kernel) (by decide +kernel)
theorem k_142 : Cond.arrayClass .boolean ∈ gG := x_k 142 (by decide +kernel) (by decide +kernel)
theorem k_148 : Cond.methodLink "ReleaseRows$WaitingRow" 3 (⟨"java/lang/Object", "<init>", "()V"⟩ : MethodName) ∈ gG := x_k 148 (by decide +kernel) (by decide +kernel)
theorem k_149 : Cond.fieldLink "ReleaseRows$WaitingRow" 9 "ReleaseRows$WaitingRow" "incident" "[I" ∈ gG := x_k 149 (by decide +kernel) (by decide +kernel)
theorem k_150 : Cond.fieldLink "ReleaseRows$WaitingRow" 15 "ReleaseRows$WaitingRow" "size" "I" ∈ gG := x_k 150 (by decide +kernel) (by decide +kernel)
theorem k_151 : Cond.fieldLink "ReleaseRows" 76 "ReleaseRows$WaitingRow" "size" "I" ∈ gG := x_k 151 (by decide +kernel) (by decide +kernel)
theorem k_152 : Cond.laysFinal "ReleaseRows$WaitingRow" "ReleaseRows$WaitingRow" "incident" "[I" ∈ gG := x_k 152 (by decide +kernel) (by decide +kernel)
theorem k_154 : Cond.lays "ReleaseRows$WaitingRow" "ReleaseRows$WaitingRow" "size" "I" ∈ gG := x_k 154 (by decide +kernel) (by decide +kernel)
theorem k_157 : Cond.fieldLink "ReleaseRows" 10 "ReleaseRows" "units" "LReleaseRows$UnitRows;" ∈ gG := x_k 157 (by decide +kernel) (by decide +kernel)
theorem k_158 : Cond.fieldLink "ReleaseRows" 19 "ReleaseRows" "incidents" "LReleaseRows$IncidentRows;" ∈ gG := x_k 158 (by decide +kernel) (by decide +kernel)
theorem k_159 : Cond.fieldLink "ReleaseRows" 26 "ReleaseRows" "waiting" "LReleaseRows$WaitingRow;" ∈ gG := x_k 159 (by decide +kernel) (by decide +kernel)
theorem k_160 : Cond.fieldLink "ReleaseRows" 30 "ReleaseRows" "stocks" "[I" ∈ gG := x_k 160 (by decide +kernel) (by decide +kernel)
theorem k_161 : Cond.fieldLink "ReleaseRows" 34 "ReleaseRows" "second" "I" ∈ gG := x_k 161 (by decide +kernel) (by decide +kernel)
theorem k_162 : Cond.fieldLink "ReleaseRows" 38 "ReleaseRows" "reopenSpan" "I" ∈ gG := x_k 162 (by decide +kernel) (by decide +kernel)
theorem k_163 : Cond.laysFinal "ReleaseRows" "ReleaseRows" "units" "LReleaseRows$UnitRows;" ∈ gG := x_k 163 (by decide +kernel) (by decide +kernel)
theorem k_165 : Cond.laysFinal "ReleaseRows" "ReleaseRows" "incidents" "LReleaseRows$IncidentRows;" ∈ gG := x_k 165 (by decide +kernel) (by decide +kernel)
theorem k_167 : Cond.laysFinal "ReleaseRows" "ReleaseRows" "waiting" "LReleaseRows$WaitingRow;" ∈ gG := x_k 167 (by decide +kernel) (by decide +kernel)
theorem k_169 : Cond.laysFinal "ReleaseRows" "ReleaseRows" "stocks" "[I" ∈ gG := x_k 169 (by decide +kernel) (by decide +kernel)
theorem k_171 : Cond.lays "ReleaseRows" "ReleaseRows" "second" "I" ∈ gG := x_k 171 (by decide +kernel) (by decide +kernel)
theorem k_173 : Cond.lays "ReleaseRows" "ReleaseRows" "reopenSpan" "I" ∈ gG := x_k 173 (by decide +kernel) (by decide +kernel)
theorem k_281 : Cond.methodLink "ReleaseRows$UnitRows" 46 (⟨"ReleaseRows$UnitRows", "become", "(III)V"⟩ : MethodName) ∈ gG := x_k 281 (by decide +kernel) (by decide +kernel)
theorem k_282 : Cond.instanceMethod (⟨"ReleaseRows$UnitRows", "become", "(III)V"⟩ : MethodName) ∈ gG := x_k 282 (by decide +kernel) (by decide +kernel)
theorem k_283 : Cond.selects "ReleaseRows$UnitRows" (⟨"ReleaseRows$UnitRows", "become", "(III)V"⟩ : MethodName) (⟨"ReleaseRows$UnitRows", "become", "(III)V"⟩ : MethodName) ∈ gG := x_k 283 (by decide +kernel) (by decide +kernel)
theorem k_284 : Cond.code (⟨"ReleaseRows$UnitRows", "become", "(III)V"⟩ : MethodName) prog_3_method_5_code 4 none ∈ gG := x_k 284 (by decide +kernel) (by decide +kernel)
theorem k_293 : Cond.methodLink "ReleaseRows" 206 (⟨"ReleaseRows$UnitRows", "goOn", "(I[II)V"⟩ : MethodName) ∈ gG := x_k 293 (by decide +kernel) (by decide +kernel)
theorem k_294 : Cond.instanceMethod (⟨"ReleaseRows$UnitRows", "goOn", "(I[II)V"⟩ : MethodName) ∈ gG := x_k 294 (by decide +kernel) (by decide +kernel)
theorem k_295 : Cond.selects "ReleaseRows$UnitRows" (⟨"ReleaseRows$UnitRows", "goOn", "(I[II)V"⟩ : MethodName) (⟨"ReleaseRows$UnitRows", "goOn", "(I[II)V"⟩ : MethodName) ∈ gG := x_k 295 (by decide +kernel) (by decide +kernel)
theorem k_296 : Cond.code (⟨"ReleaseRows$UnitRows", "goOn", "(I[II)V"⟩ : MethodName) prog_3_method_7_code 4 none ∈ gG := x_k 296 (by decide +kernel) (by decide +kernel)
theorem k_297 : Cond.methodLink "ReleaseRows$UnitRows" 50 (⟨"ReleaseRows$UnitRows", "workEnd", "(I)I"⟩ : MethodName) ∈ gG := x_k 297 (by decide +kernel) (by decide +kernel)
theorem k_298 : Cond.instanceMethod (⟨"ReleaseRows$UnitRows", "workEnd", "(I)I"⟩ : MethodName) ∈ gG := x_k 298 (by decide +kernel) (by decide +kernel)
theorem k_299 : Cond.selects "ReleaseRows$UnitRows" (⟨"ReleaseRows$UnitRows", "workEnd", "(I)I"⟩ : MethodName) (⟨"ReleaseRows$UnitRows", "workEnd", "(I)I"⟩ : MethodName) ∈ gG := x_k 299 (by decide +kernel) (by decide +kernel)
theorem k_300 : Cond.code (⟨"ReleaseRows$UnitRows", "workEnd", "(I)I"⟩ : MethodName) prog_3_method_8_code 2 (some .int) ∈ gG := x_k 300 (by decide +kernel) (by decide +kernel)
theorem k_301 : Cond.methodLink "ReleaseRows$UnitRows" 54 (⟨"ReleaseRows$UnitRows", "canRefill", "(I[I)Z"⟩ : MethodName) ∈ gG := x_k 301 (by decide +kernel) (by decide +kernel)
theorem k_303 : Cond.instanceMethod (⟨"ReleaseRows$UnitRows", "canRefill", "(I[I)Z"⟩ : MethodName) ∈ gG := x_k 303 (by decide +kernel) (by decide +kernel)
theorem k_304 : Cond.code (⟨"ReleaseRows$UnitRows", "canRefill", "(I[I)Z"⟩ : MethodName) prog_3_method_14_code 4 (some .boolean) ∈ gG := x_k 304 (by decide +kernel) (by decide +kernel)
theorem k_305 : Cond.methodLink "ReleaseRows$UnitRows" 58 (⟨"ReleaseRows$UnitRows", "refill", "(I[I)V"⟩ : MethodName) ∈ gG := x_k 305 (by decide +kernel) (by decide +kernel)
theorem k_307 : Cond.instanceMethod (⟨"ReleaseRows$UnitRows", "refill", "(I[I)V"⟩ : MethodName) ∈ gG := x_k 307 (by decide +kernel) (by decide +kernel)
theorem k_308 : Cond.code (⟨"ReleaseRows$UnitRows", "refill", "(I[I)V"⟩ : MethodName) prog_3_method_15_code 4 none ∈ gG := x_k 308 (by decide +kernel) (by decide +kernel)
theorem k_309 : Cond.methodLink "ReleaseRows$UnitRows" 62 (⟨"ReleaseRows$UnitRows", "checksToDo", "(I)I"⟩ : MethodName) ∈ gG := x_k 309 (by decide +kernel) (by decide +kernel)
theorem k_310 : Cond.instanceMethod (⟨"ReleaseRows$UnitRows", "checksToDo", "(I)I"⟩ : MethodName) ∈ gG := x_k 310 (by decide +kernel) (by decide +kernel)
theorem k_311 : Cond.selects "ReleaseRows$UnitRows" (⟨"ReleaseRows$UnitRows", "checksToDo", "(I)I"⟩ : MethodName) (⟨"ReleaseRows$UnitRows", "checksToDo", "(I)I"⟩ : MethodName) ∈ gG := x_k 311 (by decide +kernel) (by decide +kernel)
theorem k_312 : Cond.code (⟨"ReleaseRows$UnitRows", "checksToDo", "(I)I"⟩ : MethodName) prog_3_method_9_code 2 (some .int) ∈ gG := x_k 312 (by decide +kernel) (by decide +kernel)
theorem k_313 : Cond.methodLink "ReleaseRows" 210 (⟨"ReleaseRows", "giveUnitsToCalls", "()V"⟩ : MethodName) ∈ gG := x_k 313 (by decide +kernel) (by decide +kernel)
theorem k_315 : Cond.instanceMethod (⟨"ReleaseRows", "giveUnitsToCalls", "()V"⟩ : MethodName) ∈ gG := x_k 315 (by decide +kernel) (by decide +kernel)
theorem k_316 : Cond.code (⟨"ReleaseRows", "giveUnitsToCalls", "()V"⟩ : MethodName) prog_1_method_27_code 3 none ∈ gG := x_k 316 (by decide +kernel) (by decide +kernel)
theorem k_317 : Cond.methodLink "ReleaseRows" 216 (⟨"ReleaseRows$UnitRows", "nearestReady", "()I"⟩ : MethodName) ∈ gG := x_k 317 (by decide +kernel) (by decide +kernel)
theorem k_318 : Cond.instanceMethod (⟨"ReleaseRows$UnitRows", "nearestReady", "()I"⟩ : MethodName) ∈ gG := x_k 318 (by decide +kernel) (by decide +kernel)
theorem k_319 : Cond.selects "ReleaseRows$UnitRows" (⟨"ReleaseRows$UnitRows", "nearestReady", "()I"⟩ : MethodName) (⟨"ReleaseRows$UnitRows", "nearestReady", "()I"⟩ : MethodName) ∈ gG := x_k 319 (by decide +kernel) (by decide +kernel)
theorem k_320 : Cond.code (⟨"ReleaseRows$UnitRows", "nearestReady", "()I"⟩ : MethodName) prog_3_method_10_code 3 (some .int) ∈ gG := x_k 320 (by decide +kernel) (by decide +kernel)
theorem k_321 : Cond.methodLink "ReleaseRows" 219 (⟨"ReleaseRows$WaitingRow", "takeFirst", "()I"⟩ : MethodName) ∈ gG := x_k 321 (by decide +kernel) (by decide +kernel)
theorem k_322 : Cond.instanceMethod (⟨"ReleaseRows$WaitingRow", "takeFirst", "()I"⟩ : MethodName) ∈ gG := x_k 322 (by decide +kernel) (by decide +kernel)
theorem k_323 : Cond.selects "ReleaseRows$WaitingRow" (⟨"ReleaseRows$WaitingRow", "takeFirst", "()I"⟩ : MethodName) (⟨"ReleaseRows$WaitingRow", "takeFirst", "()I"⟩ : MethodName) ∈ gG := x_k 323 (by decide +kernel) (by decide +kernel)
theorem k_324 : Cond.code (⟨"ReleaseRows$WaitingRow", "takeFirst", "()I"⟩ : MethodName) prog_4_method_3_code 2 (some .int) ∈ gG := x_k 324 (by decide +kernel) (by decide +kernel)
theorem k_325 : Cond.methodLink "ReleaseRows$WaitingRow" 19 (⟨"java/lang/System", "arraycopy", "(Ljava/lang/Object;ILjava/lang/Object;II)V"⟩ : MethodName) ∈ gG := x_k 325 (by decide +kernel) (by decide +kernel)
theorem k_326 : Cond.static (⟨"java/lang/System", "arraycopy", "(Ljava/lang/Object;ILjava/lang/Object;II)V"⟩ : MethodName) ∈ gG := x_k 326 (by decide +kernel) (by decide +kernel)
theorem k_327 : Cond.native (⟨"java/lang/System", "arraycopy", "(Ljava/lang/Object;ILjava/lang/Object;II)V"⟩ : MethodName) ∈ gG := x_k 327 (by decide +kernel) (by decide +kernel)
theorem k_328 : Cond.methodLink "ReleaseRows" 106 (⟨"ReleaseRows", "bring", "(II)V"⟩ : MethodName) ∈ gG := x_k 328 (by decide +kernel) (by decide +kernel)
theorem k_330 : Cond.instanceMethod (⟨"ReleaseRows", "bring", "(II)V"⟩ : MethodName) ∈ gG := x_k 330 (by decide +kernel) (by decide +kernel)
theorem k_331 : Cond.code (⟨"ReleaseRows", "bring", "(II)V"⟩ : MethodName) prog_1_method_25_code 3 none ∈ gG := x_k 331 (by decide +kernel) (by decide +kernel)
theorem k_332 : Cond.methodLink "ReleaseRows" 200 (⟨"ReleaseRows$UnitRows", "goTo", "(III)V"⟩ : MethodName) ∈ gG := x_k 332 (by decide +kernel) (by decide +kernel)
theorem k_333 : Cond.instanceMethod (⟨"ReleaseRows$UnitRows", "goTo", "(III)V"⟩ : MethodName) ∈ gG := x_k 333 (by decide +kernel) (by decide +kernel)
theorem k_334 : Cond.selects "ReleaseRows$UnitRows" (⟨"ReleaseRows$UnitRows", "goTo", "(III)V"⟩ : MethodName) (⟨"ReleaseRows$UnitRows", "goTo", "(III)V"⟩ : MethodName) ∈ gG := x_k 334 (by decide +kernel) (by decide +kernel)
theorem k_335 : Cond.code (⟨"ReleaseRows$UnitRows", "goTo", "(III)V"⟩ : MethodName) prog_3_method_6_code 4 none ∈ gG := x_k 335 (by decide +kernel) (by decide +kernel)
theorem k_336 : Cond.methodLink "ReleaseRows" 213 (⟨"ReleaseRows", "closeIncidents", "()I"⟩ : MethodName) ∈ gG := x_k 336 (by decide +kernel) (by decide +kernel)
theorem k_338 : Cond.instanceMethod (⟨"ReleaseRows", "closeIncidents", "()I"⟩ : MethodName) ∈ gG := x_k 338 (by decide +kernel) (by decide +kernel)
theorem k_339 : Cond.code (⟨"ReleaseRows", "closeIncidents", "()I"⟩ : MethodName) prog_1_method_28_code 3 (some .int) ∈ gG := x_k 339 (by decide +kernel) (by decide +kernel)
theorem k_340 : Cond.methodLink "ReleaseRows" 222 (⟨"ReleaseRows$IncidentRows", "mayClose", "(II)Z"⟩ : MethodName) ∈ gG := x_k 340 (by decide +kernel) (by decide +kernel)
theorem k_341 : Cond.instanceMethod (⟨"ReleaseRows$IncidentRows", "mayClose", "(II)Z"⟩ : MethodName) ∈ gG := x_k 341 (by decide +kernel) (by decide +kernel)
theorem k_342 : Cond.selects "ReleaseRows$IncidentRows" (⟨"ReleaseRows$IncidentRows", "mayClose", "(II)Z"⟩ : MethodName) (⟨"ReleaseRows$IncidentRows", "mayClose", "(II)Z"⟩ : MethodName) ∈ gG := x_k 342 (by decide +kernel) (by decide +kernel)
theorem k_343 : Cond.code (⟨"ReleaseRows$IncidentRows", "mayClose", "(II)Z"⟩ : MethodName) prog_2_method_7_code 3 (some .boolean) ∈ gG := x_k 343 (by decide +kernel) (by decide +kernel)
theorem k_344 : Cond.methodLink "ReleaseRows" 158 (⟨"ReleaseRows$UnitRows", "countAt", "(I)I"⟩ : MethodName) ∈ gG := x_k 344 (by decide +kernel) (by decide +kernel)
theorem k_345 : Cond.instanceMethod (⟨"ReleaseRows$UnitRows", "countAt", "(I)I"⟩ : MethodName) ∈ gG := x_k 345 (by decide +kernel) (by decide +kernel)
theorem k_346 : Cond.selects "ReleaseRows$UnitRows" (⟨"ReleaseRows$UnitRows", "countAt", "(I)I"⟩ : MethodName) (⟨"ReleaseRows$UnitRows", "countAt", "(I)I"⟩ : MethodName) ∈ gG := x_k 346 (by decide +kernel) (by decide +kernel)
theorem k_347 : Cond.code (⟨"ReleaseRows$UnitRows", "countAt", "(I)I"⟩ : MethodName) prog_3_method_12_code 4 (some .int) ∈ gG := x_k 347 (by decide +kernel) (by decide +kernel)
theorem k_348 : Cond.methodLink "ReleaseRows" 161 (⟨"ReleaseRows$WaitingRow", "countFor", "(I)I"⟩ : MethodName) ∈ gG := x_k 348 (by decide +kernel) (by decide +kernel)
theorem k_349 : Cond.instanceMethod (⟨"ReleaseRows$WaitingRow", "countFor", "(I)I"⟩ : MethodName) ∈ gG := x_k 349 (by decide +kernel) (by decide +kernel)
theorem k_350 : Cond.selects "ReleaseRows$WaitingRow" (⟨"ReleaseRows$WaitingRow", "countFor", "(I)I"⟩ : MethodName) (⟨"ReleaseRows$WaitingRow", "countFor", "(I)I"⟩ : MethodName) ∈ gG := x_k 350 (by decide +kernel) (by decide +kernel)
theorem k_351 : Cond.code (⟨"ReleaseRows$WaitingRow", "countFor", "(I)I"⟩ : MethodName) prog_4_method_4_code 4 (some .int) ∈ gG := x_k 351 (by decide +kernel) (by decide +kernel)
theorem k_352 : Cond.methodLink "ReleaseRows" 225 (⟨"ReleaseRows$IncidentRows", "close", "(II)V"⟩ : MethodName) ∈ gG := x_k 352 (by decide +kernel) (by decide +kernel)
theorem k_353 : Cond.instanceMethod (⟨"ReleaseRows$IncidentRows", "close", "(II)V"⟩ : MethodName) ∈ gG := x_k 353 (by decide +kernel) (by decide +kernel)
theorem k_354 : Cond.selects "ReleaseRows$IncidentRows" (⟨"ReleaseRows$IncidentRows", "close", "(II)V"⟩ : MethodName) (⟨"ReleaseRows$IncidentRows", "close", "(II)V"⟩ : MethodName) ∈ gG := x_k 354 (by decide +kernel) (by decide +kernel)
theorem k_355 : Cond.code (⟨"ReleaseRows$IncidentRows", "close", "(II)V"⟩ : MethodName) prog_2_method_6_code 3 none ∈ gG := x_k 355 (by decide +kernel) (by decide +kernel)
theorem k_530 : Cond.methodLink "ReleaseRows" 228 (⟨"ReleaseRows$UnitRows", "workEnd", "(I)I"⟩ : MethodName) ∈ gG := x_k 530 (by decide +kernel) (by decide +kernel)
theorem k_531 : Cond.methodLink "ReleaseRows" 231 (⟨"ReleaseRows", "earlierAhead", "(II)I"⟩ : MethodName) ∈ gG := x_k 531 (by decide +kernel) (by decide +kernel)
theorem k_533 : Cond.instanceMethod (⟨"ReleaseRows", "earlierAhead", "(II)I"⟩ : MethodName) ∈ gG := x_k 533 (by decide +kernel) (by decide +kernel)
theorem k_534 : Cond.code (⟨"ReleaseRows", "earlierAhead", "(II)I"⟩ : MethodName) prog_1_method_30_code 3 (some .int) ∈ gG := x_k 534 (by decide +kernel) (by decide +kernel)
theorem k_603 : Cond.lays "ReleaseRowsModel" "ReleaseRowsModel" "thrown" "I" ∈ gG := x_k 603 (by decide +kernel) (by decide +kernel)
theorem k_605 : Cond.lays "ReleaseRowsModel" "ReleaseRowsModel" "now" "I" ∈ gG := x_k 605 (by decide +kernel) (by decide +kernel)
theorem k_607 : Cond.lays "ReleaseRowsModel" "ReleaseRowsModel" "span" "I" ∈ gG := x_k 607 (by decide +kernel) (by decide +kernel)
theorem k_609 : Cond.lays "ReleaseRowsModel" "ReleaseRowsModel" "units" "I" ∈ gG := x_k 609 (by decide +kernel) (by decide +kernel)
theorem k_611 : Cond.laysFinal "ReleaseRowsModel" "ReleaseRowsModel" "home" "[I" ∈ gG := x_k 611 (by decide +kernel) (by decide +kernel)
theorem k_613 : Cond.laysFinal "ReleaseRowsModel" "ReleaseRowsModel" "cleaning" "[I" ∈ gG := x_k 613 (by decide +kernel) (by decide +kernel)
theorem k_615 : Cond.laysFinal "ReleaseRowsModel" "ReleaseRowsModel" "refilling" "[I" ∈ gG := x_k 615 (by decide +kernel) (by decide +kernel)
theorem k_617 : Cond.laysFinal "ReleaseRowsModel" "ReleaseRowsModel" "must" "[I" ∈ gG := x_k 617 (by decide +kernel) (by decide +kernel)
theorem k_619 : Cond.laysFinal "ReleaseRowsModel" "ReleaseRowsModel" "is" "[I" ∈ gG := x_k 619 (by decide +kernel) (by decide +kernel)
theorem k_621 : Cond.laysFinal "ReleaseRowsModel" "ReleaseRowsModel" "with" "[I" ∈ gG := x_k 621 (by decide +kernel) (by decide +kernel)
theorem k_623 : Cond.laysFinal "ReleaseRowsModel" "ReleaseRowsModel" "since" "[I" ∈ gG := x_k 623 (by decide +kernel) (by decide +kernel)
theorem k_625 : Cond.laysFinal "ReleaseRowsModel" "ReleaseRowsModel" "done" "[I" ∈ gG := x_k 625 (by decide +kernel) (by decide +kernel)
theorem k_627 : Cond.laysFinal "ReleaseRowsModel" "ReleaseRowsModel" "sent" "[I" ∈ gG := x_k 627 (by decide +kernel) (by decide +kernel)
theorem k_629 : Cond.laysFinal "ReleaseRowsModel" "ReleaseRowsModel" "used" "[I" ∈ gG := x_k 629 (by decide +kernel) (by decide +kernel)
theorem k_631 : Cond.laysFinal "ReleaseRowsModel" "ReleaseRowsModel" "stock" "[I" ∈ gG := x_k 631 (by decide +kernel) (by decide +kernel)
theorem k_633 : Cond.lays "ReleaseRowsModel" "ReleaseRowsModel" "incidents" "I" ∈ gG := x_k 633 (by decide +kernel) (by decide +kernel)
theorem k_635 : Cond.laysFinal "ReleaseRowsModel" "ReleaseRowsModel" "place" "[I" ∈ gG := x_k 635 (by decide +kernel) (by decide +kernel)
theorem k_637 : Cond.laysFinal "ReleaseRowsModel" "ReleaseRowsModel" "open" "[Z" ∈ gG := x_k 637 (by decide +kernel) (by decide +kernel)
theorem k_639 : Cond.laysFinal "ReleaseRowsModel" "ReleaseRowsModel" "had" "[Z" ∈ gG := x_k 639 (by decide +kernel) (by decide +kernel)
theorem k_641 : Cond.laysFinal "ReleaseRowsModel" "ReleaseRowsModel" "rows" "[I" ∈ gG := x_k 641 (by decide +kernel) (by decide +kernel)
theorem k_643 : Cond.laysFinal "ReleaseRowsModel" "ReleaseRowsModel" "inside" "[I" ∈ gG := x_k 643 (by decide +kernel) (by decide +kernel)
theorem k_645 : Cond.laysFinal "ReleaseRowsModel" "ReleaseRowsModel" "watch" "[I" ∈ gG := x_k 645 (by decide +kernel) (by decide +kernel)
theorem k_647 : Cond.laysFinal "ReleaseRowsModel" "ReleaseRowsModel" "opened" "[I" ∈ gG := x_k 647 (by decide +kernel) (by decide +kernel)
theorem k_649 : Cond.laysFinal "ReleaseRowsModel" "ReleaseRowsModel" "closes" "[I" ∈ gG := x_k 649 (by decide +kernel) (by decide +kernel)
theorem k_651 : Cond.laysFinal "ReleaseRowsModel" "ReleaseRowsModel" "closedAt" "[I" ∈ gG := x_k 651 (by decide +kernel) (by decide +kernel)
theorem k_653 : Cond.lays "ReleaseRowsModel" "ReleaseRowsModel" "waits" "I" ∈ gG := x_k 653 (by decide +kernel) (by decide +kernel)
theorem k_655 : Cond.laysFinal "ReleaseRowsModel" "ReleaseRowsModel" "waiting" "[I" ∈ gG := x_k 655 (by decide +kernel) (by decide +kernel)
theorem in_I : ∀ w ∈ u_ws "ReleaseRows$IncidentRows" T_I 10, w ∈ gG := by
  intro w hw
  obtain ⟨j, hj, rfl⟩ := List.mem_map.mp hw
  have hj := List.mem_range.mp hj
  match j, hj with
  | 0, _ => exact k_121
  | 1, _ => exact k_123
  | 2, _ => exact k_125
  | 3, _ => exact k_127
  | 4, _ => exact k_129
  | 5, _ => exact k_131
  | 6, _ => exact k_133
  | 7, _ => exact k_135
  | 8, _ => exact k_137
  | 9, _ => exact k_139
  | j + 10, hj => exact absurd hj (by omega)
theorem in_U : ∀ w ∈ u_ws "ReleaseRows$UnitRows" T_U 11, w ∈ gG := by
  intro w hw
  obtain ⟨j, hj, rfl⟩ := List.mem_map.mp hw
  have hj := List.mem_range.mp hj
  match j, hj with
  | 0, _ => exact k_72
  | 1, _ => exact k_74
  | 2, _ => exact k_76
  | 3, _ => exact k_78
  | 4, _ => exact k_80
  | 5, _ => exact k_82
  | 6, _ => exact k_84
  | 7, _ => exact k_86
  | 8, _ => exact k_88
  | 9, _ => exact k_90
  | 10, _ => exact k_92
  | j + 11, hj => exact absurd hj (by omega)
theorem in_W : ∀ w ∈ u_ws "ReleaseRows$WaitingRow" T_W 2, w ∈ gG := by
  intro w hw
  obtain ⟨j, hj, rfl⟩ := List.mem_map.mp hw
  have hj := List.mem_range.mp hj
  match j, hj with
  | 0, _ => exact k_152
  | 1, _ => exact k_154
  | j + 2, hj => exact absurd hj (by omega)
theorem in_R : ∀ w ∈ u_ws "ReleaseRows" T_R 6, w ∈ gG := by
  intro w hw
  obtain ⟨j, hj, rfl⟩ := List.mem_map.mp hw
  have hj := List.mem_range.mp hj
  match j, hj with
  | 0, _ => exact k_163
  | 1, _ => exact k_165
  | 2, _ => exact k_167
  | 3, _ => exact k_169
  | 4, _ => exact k_171
  | 5, _ => exact k_173
  | j + 6, hj => exact absurd hj (by omega)
theorem in_M : ∀ w ∈ u_ws "ReleaseRowsModel" T_M 27, w ∈ gG := by
  intro w hw
  obtain ⟨j, hj, rfl⟩ := List.mem_map.mp hw
  have hj := List.mem_range.mp hj
  match j, hj with
  | 0, _ => exact k_603
  | 1, _ => exact k_605
  | 2, _ => exact k_607
  | 3, _ => exact k_609
  | 4, _ => exact k_611
  | 5, _ => exact k_613
  | 6, _ => exact k_615
  | 7, _ => exact k_617
  | 8, _ => exact k_619
  | 9, _ => exact k_621
  | 10, _ => exact k_623
  | 11, _ => exact k_625
  | 12, _ => exact k_627
  | 13, _ => exact k_629
  | 14, _ => exact k_631
  | 15, _ => exact k_633
  | 16, _ => exact k_635
  | 17, _ => exact k_637
  | 18, _ => exact k_639
  | 19, _ => exact k_641
  | 20, _ => exact k_643
  | 21, _ => exact k_645
  | 22, _ => exact k_647
  | 23, _ => exact k_649
  | 24, _ => exact k_651
  | 25, _ => exact k_653
  | 26, _ => exact k_655
  | j + 27, hj => exact absurd hj (by omega)
end
section
theorem d_I_init_0 : decode b_I_init 0 = .ok (.aload_n 0, 1) := by decide +kernel
theorem d_I_init_1 : decode b_I_init 1 = .ok (.invokespecial 3, 3) := by decide +kernel
theorem d_I_init_4 : decode b_I_init 4 = .ok (.aload_n 0, 1) := by decide +kernel
theorem d_I_init_5 : decode b_I_init 5 = .ok (.bipush 20, 2) := by decide +kernel
theorem d_I_init_7 : decode b_I_init 7 = .ok (.newarray .int, 2) := by decide +kernel
theorem d_I_init_9 : decode b_I_init 9 = .ok (.putfield 9, 3) := by decide +kernel
theorem d_I_init_12 : decode b_I_init 12 = .ok (.aload_n 0, 1) := by decide +kernel
theorem d_I_init_13 : decode b_I_init 13 = .ok (.bipush 20, 2) := by decide +kernel
theorem d_I_init_15 : decode b_I_init 15 = .ok (.newarray .boolean, 2) := by decide +kernel
theorem d_I_init_17 : decode b_I_init 17 = .ok (.putfield 15, 3) := by decide +kernel
theorem d_I_init_20 : decode b_I_init 20 = .ok (.aload_n 0, 1) := by decide +kernel
theorem d_I_init_21 : decode b_I_init 21 = .ok (.bipush 20, 2) := by decide +kernel
theorem d_I_init_23 : decode b_I_init 23 = .ok (.newarray .boolean, 2) := by decide +kernel
theorem d_I_init_25 : decode b_I_init 25 = .ok (.putfield 19, 3) := by decide +kernel
theorem d_I_init_28 : decode b_I_init 28 = .ok (.aload_n 0, 1) := by decide +kernel
theorem d_I_init_29 : decode b_I_init 29 = .ok (.bipush 20, 2) := by decide +kernel
theorem d_I_init_31 : decode b_I_init 31 = .ok (.newarray .int, 2) := by decide +kernel
theorem d_I_init_33 : decode b_I_init 33 = .ok (.putfield 22, 3) := by decide +kernel
theorem d_I_init_36 : decode b_I_init 36 = .ok (.aload_n 0, 1) := by decide +kernel
theorem d_I_init_37 : decode b_I_init 37 = .ok (.bipush 20, 2) := by decide +kernel
theorem d_I_init_39 : decode b_I_init 39 = .ok (.newarray .int, 2) := by decide +kernel
theorem d_I_init_41 : decode b_I_init 41 = .ok (.putfield 25, 3) := by decide +kernel
theorem d_I_init_44 : decode b_I_init 44 = .ok (.aload_n 0, 1) := by decide +kernel
theorem d_I_init_45 : decode b_I_init 45 = .ok (.bipush 20, 2) := by decide +kernel
theorem d_I_init_47 : decode b_I_init 47 = .ok (.newarray .int, 2) := by decide +kernel
theorem d_I_init_49 : decode b_I_init 49 = .ok (.putfield 28, 3) := by decide +kernel
theorem d_I_init_52 : decode b_I_init 52 = .ok (.aload_n 0, 1) := by decide +kernel
theorem d_I_init_53 : decode b_I_init 53 = .ok (.bipush 20, 2) := by decide +kernel
theorem d_I_init_55 : decode b_I_init 55 = .ok (.newarray .int, 2) := by decide +kernel
theorem d_I_init_57 : decode b_I_init 57 = .ok (.putfield 31, 3) := by decide +kernel
theorem d_I_init_60 : decode b_I_init 60 = .ok (.aload_n 0, 1) := by decide +kernel
theorem d_I_init_61 : decode b_I_init 61 = .ok (.bipush 20, 2) := by decide +kernel
theorem d_I_init_63 : decode b_I_init 63 = .ok (.newarray .int, 2) := by decide +kernel
theorem d_I_init_65 : decode b_I_init 65 = .ok (.putfield 34, 3) := by decide +kernel
theorem d_I_init_68 : decode b_I_init 68 = .ok (.aload_n 0, 1) := by decide +kernel
theorem d_I_init_69 : decode b_I_init 69 = .ok (.bipush 20, 2) := by decide +kernel
theorem d_I_init_71 : decode b_I_init 71 = .ok (.newarray .int, 2) := by decide +kernel
theorem d_I_init_73 : decode b_I_init 73 = .ok (.putfield 37, 3) := by decide +kernel
theorem d_I_init_76 : decode b_I_init 76 = .ok (.aload_n 0, 1) := by decide +kernel
theorem d_I_init_77 : decode b_I_init 77 = .ok (.iconst 0, 1) := by decide +kernel
theorem d_I_init_78 : decode b_I_init 78 = .ok (.putfield 40, 3) := by decide +kernel
theorem d_I_init_81 : decode b_I_init 81 = .ok (.return_, 1) := by decide +kernel
theorem d_I_has_0 : decode b_I_has 0 = .ok (.iload_n 1, 1) := by decide +kernel
theorem d_I_has_1 : decode b_I_has 1 = .ok (.ifCond .lt 15, 3) := by decide +kernel
theorem d_I_has_4 : decode b_I_has 4 = .ok (.iload_n 1, 1) := by decide +kernel
theorem d_I_has_5 : decode b_I_has 5 = .ok (.aload_n 0, 1) := by decide +kernel
theorem d_I_has_6 : decode b_I_has 6 = .ok (.getfield 40, 3) := by decide +kernel
theorem d_I_has_9 : decode b_I_has 9 = .ok (.if_icmp .ge 7, 3) := by decide +kernel
theorem d_I_has_12 : decode b_I_has 12 = .ok (.iconst 1, 1) := by decide +kernel
theorem d_I_has_13 : decode b_I_has 13 = .ok (.goto 4, 3) := by decide +kernel
theorem d_I_has_16 : decode b_I_has 16 = .ok (.iconst 0, 1) := by decide +kernel
theorem d_I_has_17 : decode b_I_has 17 = .ok (.ireturn, 1) := by decide +kernel
theorem d_I_addIncident_0 : decode b_I_addIncident 0 = .ok (.aload_n 0, 1) := by decide +kernel
theorem d_I_addIncident_1 : decode b_I_addIncident 1 = .ok (.getfield 40, 3) := by decide +kernel
theorem d_I_addIncident_4 : decode b_I_addIncident 4 = .ok (.istore_n 2, 1) := by decide +kernel
theorem d_I_addIncident_5 : decode b_I_addIncident 5 = .ok (.aload_n 0, 1) := by decide +kernel
theorem d_I_addIncident_6 : decode b_I_addIncident 6 = .ok (.dup, 1) := by decide +kernel
theorem d_I_addIncident_7 : decode b_I_addIncident 7 = .ok (.getfield 40, 3) := by decide +kernel
theorem d_I_addIncident_10 : decode b_I_addIncident 10 = .ok (.iconst 1, 1) := by decide +kernel
theorem d_I_addIncident_11 : decode b_I_addIncident 11 = .ok (.iadd, 1) := by decide +kernel
theorem d_I_addIncident_12 : decode b_I_addIncident 12 = .ok (.putfield 40, 3) := by decide +kernel
theorem d_I_addIncident_15 : decode b_I_addIncident 15 = .ok (.aload_n 0, 1) := by decide +kernel
theorem d_I_addIncident_16 : decode b_I_addIncident 16 = .ok (.getfield 9, 3) := by decide +kernel
theorem d_I_addIncident_19 : decode b_I_addIncident 19 = .ok (.iload_n 2, 1) := by decide +kernel
theorem d_I_addIncident_20 : decode b_I_addIncident 20 = .ok (.iload_n 1, 1) := by decide +kernel
theorem d_I_addIncident_21 : decode b_I_addIncident 21 = .ok (.iastore, 1) := by decide +kernel
theorem d_I_addIncident_22 : decode b_I_addIncident 22 = .ok (.aload_n 0, 1) := by decide +kernel
theorem d_I_addIncident_23 : decode b_I_addIncident 23 = .ok (.getfield 37, 3) := by decide +kernel
theorem d_I_addIncident_26 : decode b_I_addIncident 26 = .ok (.iload_n 2, 1) := by decide +kernel
theorem d_I_addIncident_27 : decode b_I_addIncident 27 = .ok (.iconst (-1), 1) := by decide +kernel
theorem d_I_addIncident_28 : decode b_I_addIncident 28 = .ok (.iastore, 1) := by decide +kernel
theorem d_I_addIncident_29 : decode b_I_addIncident 29 = .ok (.iload_n 2, 1) := by decide +kernel
theorem d_I_addIncident_30 : decode b_I_addIncident 30 = .ok (.ireturn, 1) := by decide +kernel
theorem d_I_latestOf_0 : decode b_I_latestOf 0 = .ok (.aload_n 0, 1) := by decide +kernel
theorem d_I_latestOf_1 : decode b_I_latestOf 1 = .ok (.getfield 40, 3) := by decide +kernel
theorem d_I_latestOf_4 : decode b_I_latestOf 4 = .ok (.iconst 1, 1) := by decide +kernel
theorem d_I_latestOf_5 : decode b_I_latestOf 5 = .ok (.isub, 1) := by decide +kernel
theorem d_I_latestOf_6 : decode b_I_latestOf 6 = .ok (.istore_n 2, 1) := by decide +kernel
theorem d_I_latestOf_7 : decode b_I_latestOf 7 = .ok (.iload_n 2, 1) := by decide +kernel
theorem d_I_latestOf_8 : decode b_I_latestOf 8 = .ok (.ifCond .lt 21, 3) := by decide +kernel
theorem d_I_latestOf_11 : decode b_I_latestOf 11 = .ok (.aload_n 0, 1) := by decide +kernel
theorem d_I_latestOf_12 : decode b_I_latestOf 12 = .ok (.getfield 9, 3) := by decide +kernel
theorem d_I_latestOf_15 : decode b_I_latestOf 15 = .ok (.iload_n 2, 1) := by decide +kernel
theorem d_I_latestOf_16 : decode b_I_latestOf 16 = .ok (.iaload, 1) := by decide +kernel
theorem d_I_latestOf_17 : decode b_I_latestOf 17 = .ok (.iload_n 1, 1) := by decide +kernel
theorem d_I_latestOf_18 : decode b_I_latestOf 18 = .ok (.if_icmp .ne 5, 3) := by decide +kernel
theorem d_I_latestOf_21 : decode b_I_latestOf 21 = .ok (.iload_n 2, 1) := by decide +kernel
theorem d_I_latestOf_22 : decode b_I_latestOf 22 = .ok (.ireturn, 1) := by decide +kernel
theorem d_I_latestOf_23 : decode b_I_latestOf 23 = .ok (.iinc 2 (-1), 3) := by decide +kernel
theorem d_I_latestOf_26 : decode b_I_latestOf 26 = .ok (.goto (-19), 3) := by decide +kernel
theorem d_I_latestOf_29 : decode b_I_latestOf 29 = .ok (.iconst (-1), 1) := by decide +kernel
theorem d_I_latestOf_30 : decode b_I_latestOf 30 = .ok (.ireturn, 1) := by decide +kernel
theorem d_I_open_0 : decode b_I_open 0 = .ok (.aload_n 0, 1) := by decide +kernel
theorem d_I_open_1 : decode b_I_open 1 = .ok (.getfield 15, 3) := by decide +kernel
theorem d_I_open_4 : decode b_I_open 4 = .ok (.iload_n 1, 1) := by decide +kernel
theorem d_I_open_5 : decode b_I_open 5 = .ok (.iconst 1, 1) := by decide +kernel
theorem d_I_open_6 : decode b_I_open 6 = .ok (.bastore, 1) := by decide +kernel
theorem d_I_open_7 : decode b_I_open 7 = .ok (.aload_n 0, 1) := by decide +kernel
theorem d_I_open_8 : decode b_I_open 8 = .ok (.getfield 19, 3) := by decide +kernel
theorem d_I_open_11 : decode b_I_open 11 = .ok (.iload_n 1, 1) := by decide +kernel
theorem d_I_open_12 : decode b_I_open 12 = .ok (.iconst 0, 1) := by decide +kernel
theorem d_I_open_13 : decode b_I_open 13 = .ok (.bastore, 1) := by decide +kernel
theorem d_I_open_14 : decode b_I_open 14 = .ok (.aload_n 0, 1) := by decide +kernel
theorem d_I_open_15 : decode b_I_open 15 = .ok (.getfield 22, 3) := by decide +kernel
theorem d_I_open_18 : decode b_I_open 18 = .ok (.iload_n 1, 1) := by decide +kernel
theorem d_I_open_19 : decode b_I_open 19 = .ok (.iconst 0, 1) := by decide +kernel
theorem d_I_open_20 : decode b_I_open 20 = .ok (.iastore, 1) := by decide +kernel
theorem d_I_open_21 : decode b_I_open 21 = .ok (.aload_n 0, 1) := by decide +kernel
theorem d_I_open_22 : decode b_I_open 22 = .ok (.getfield 25, 3) := by decide +kernel
theorem d_I_open_25 : decode b_I_open 25 = .ok (.iload_n 1, 1) := by decide +kernel
theorem d_I_open_26 : decode b_I_open 26 = .ok (.iconst 0, 1) := by decide +kernel
theorem d_I_open_27 : decode b_I_open 27 = .ok (.iastore, 1) := by decide +kernel
theorem d_I_open_28 : decode b_I_open 28 = .ok (.aload_n 0, 1) := by decide +kernel
theorem d_I_open_29 : decode b_I_open 29 = .ok (.getfield 28, 3) := by decide +kernel
theorem d_I_open_32 : decode b_I_open 32 = .ok (.iload_n 1, 1) := by decide +kernel
theorem d_I_open_33 : decode b_I_open 33 = .ok (.iconst (-1), 1) := by decide +kernel
theorem d_I_open_34 : decode b_I_open 34 = .ok (.iastore, 1) := by decide +kernel
theorem d_I_open_35 : decode b_I_open 35 = .ok (.aload_n 0, 1) := by decide +kernel
theorem d_I_open_36 : decode b_I_open 36 = .ok (.getfield 31, 3) := by decide +kernel
theorem d_I_open_39 : decode b_I_open 39 = .ok (.iload_n 1, 1) := by decide +kernel
theorem d_I_open_40 : decode b_I_open 40 = .ok (.dup2, 1) := by decide +kernel
theorem d_I_open_41 : decode b_I_open 41 = .ok (.iaload, 1) := by decide +kernel
theorem d_I_open_42 : decode b_I_open 42 = .ok (.iconst 1, 1) := by decide +kernel
theorem d_I_open_43 : decode b_I_open 43 = .ok (.iadd, 1) := by decide +kernel
theorem d_I_open_44 : decode b_I_open 44 = .ok (.iastore, 1) := by decide +kernel
theorem d_I_open_45 : decode b_I_open 45 = .ok (.return_, 1) := by decide +kernel
theorem d_I_close_0 : decode b_I_close 0 = .ok (.aload_n 0, 1) := by decide +kernel
theorem d_I_close_1 : decode b_I_close 1 = .ok (.getfield 15, 3) := by decide +kernel
theorem d_I_close_4 : decode b_I_close 4 = .ok (.iload_n 1, 1) := by decide +kernel
theorem d_I_close_5 : decode b_I_close 5 = .ok (.iconst 0, 1) := by decide +kernel
theorem d_I_close_6 : decode b_I_close 6 = .ok (.bastore, 1) := by decide +kernel
theorem d_I_close_7 : decode b_I_close 7 = .ok (.aload_n 0, 1) := by decide +kernel
theorem d_I_close_8 : decode b_I_close 8 = .ok (.getfield 34, 3) := by decide +kernel
theorem d_I_close_11 : decode b_I_close 11 = .ok (.iload_n 1, 1) := by decide +kernel
theorem d_I_close_12 : decode b_I_close 12 = .ok (.dup2, 1) := by decide +kernel
theorem d_I_close_13 : decode b_I_close 13 = .ok (.iaload, 1) := by decide +kernel
theorem d_I_close_14 : decode b_I_close 14 = .ok (.iconst 1, 1) := by decide +kernel
theorem d_I_close_15 : decode b_I_close 15 = .ok (.iadd, 1) := by decide +kernel
theorem d_I_close_16 : decode b_I_close 16 = .ok (.iastore, 1) := by decide +kernel
theorem d_I_close_17 : decode b_I_close 17 = .ok (.aload_n 0, 1) := by decide +kernel
theorem d_I_close_18 : decode b_I_close 18 = .ok (.getfield 37, 3) := by decide +kernel
theorem d_I_close_21 : decode b_I_close 21 = .ok (.iload_n 1, 1) := by decide +kernel
theorem d_I_close_22 : decode b_I_close 22 = .ok (.iload_n 2, 1) := by decide +kernel
theorem d_I_close_23 : decode b_I_close 23 = .ok (.iastore, 1) := by decide +kernel
theorem d_I_close_24 : decode b_I_close 24 = .ok (.return_, 1) := by decide +kernel
theorem d_I_mayClose_0 : decode b_I_mayClose 0 = .ok (.aload_n 0, 1) := by decide +kernel
theorem d_I_mayClose_1 : decode b_I_mayClose 1 = .ok (.getfield 15, 3) := by decide +kernel
theorem d_I_mayClose_4 : decode b_I_mayClose 4 = .ok (.iload_n 1, 1) := by decide +kernel
theorem d_I_mayClose_5 : decode b_I_mayClose 5 = .ok (.baload, 1) := by decide +kernel
theorem d_I_mayClose_6 : decode b_I_mayClose 6 = .ok (.ifCond .eq 49, 3) := by decide +kernel
theorem d_I_mayClose_9 : decode b_I_mayClose 9 = .ok (.aload_n 0, 1) := by decide +kernel
theorem d_I_mayClose_10 : decode b_I_mayClose 10 = .ok (.getfield 19, 3) := by decide +kernel
theorem d_I_mayClose_13 : decode b_I_mayClose 13 = .ok (.iload_n 1, 1) := by decide +kernel
theorem d_I_mayClose_14 : decode b_I_mayClose 14 = .ok (.baload, 1) := by decide +kernel
theorem d_I_mayClose_15 : decode b_I_mayClose 15 = .ok (.ifCond .eq 40, 3) := by decide +kernel
theorem d_I_mayClose_18 : decode b_I_mayClose 18 = .ok (.aload_n 0, 1) := by decide +kernel
theorem d_I_mayClose_19 : decode b_I_mayClose 19 = .ok (.getfield 25, 3) := by decide +kernel
theorem d_I_mayClose_22 : decode b_I_mayClose 22 = .ok (.iload_n 1, 1) := by decide +kernel
theorem d_I_mayClose_23 : decode b_I_mayClose 23 = .ok (.iaload, 1) := by decide +kernel
theorem d_I_mayClose_24 : decode b_I_mayClose 24 = .ok (.ifCond .ne 31, 3) := by decide +kernel
theorem d_I_mayClose_27 : decode b_I_mayClose 27 = .ok (.aload_n 0, 1) := by decide +kernel
theorem d_I_mayClose_28 : decode b_I_mayClose 28 = .ok (.getfield 22, 3) := by decide +kernel
theorem d_I_mayClose_31 : decode b_I_mayClose 31 = .ok (.iload_n 1, 1) := by decide +kernel
theorem d_I_mayClose_32 : decode b_I_mayClose 32 = .ok (.iaload, 1) := by decide +kernel
theorem d_I_mayClose_33 : decode b_I_mayClose 33 = .ok (.bipush 7, 2) := by decide +kernel
theorem d_I_mayClose_35 : decode b_I_mayClose 35 = .ok (.iand, 1) := by decide +kernel
theorem d_I_mayClose_36 : decode b_I_mayClose 36 = .ok (.bipush 7, 2) := by decide +kernel
theorem d_I_mayClose_38 : decode b_I_mayClose 38 = .ok (.if_icmp .ne 17, 3) := by decide +kernel
theorem d_I_mayClose_41 : decode b_I_mayClose 41 = .ok (.iload_n 2, 1) := by decide +kernel
theorem d_I_mayClose_42 : decode b_I_mayClose 42 = .ok (.aload_n 0, 1) := by decide +kernel
theorem d_I_mayClose_43 : decode b_I_mayClose 43 = .ok (.getfield 28, 3) := by decide +kernel
theorem d_I_mayClose_46 : decode b_I_mayClose 46 = .ok (.iload_n 1, 1) := by decide +kernel
theorem d_I_mayClose_47 : decode b_I_mayClose 47 = .ok (.iaload, 1) := by decide +kernel
theorem d_I_mayClose_48 : decode b_I_mayClose 48 = .ok (.if_icmp .lt 7, 3) := by decide +kernel
theorem d_I_mayClose_51 : decode b_I_mayClose 51 = .ok (.iconst 1, 1) := by decide +kernel
theorem d_I_mayClose_52 : decode b_I_mayClose 52 = .ok (.goto 4, 3) := by decide +kernel
theorem d_I_mayClose_55 : decode b_I_mayClose 55 = .ok (.iconst 0, 1) := by decide +kernel
theorem d_I_mayClose_56 : decode b_I_mayClose 56 = .ok (.ireturn, 1) := by decide +kernel
theorem d_I_isOpenPastWatch_0 : decode b_I_isOpenPastWatch 0 = .ok (.aload_n 0, 1) := by decide +kernel
theorem d_I_isOpenPastWatch_1 : decode b_I_isOpenPastWatch 1 = .ok (.getfield 15, 3) := by decide +kernel
theorem d_I_isOpenPastWatch_4 : decode b_I_isOpenPastWatch 4 = .ok (.iload_n 1, 1) := by decide +kernel
theorem d_I_isOpenPastWatch_5 : decode b_I_isOpenPastWatch 5 = .ok (.baload, 1) := by decide +kernel
theorem d_I_isOpenPastWatch_6 : decode b_I_isOpenPastWatch 6 = .ok (.ifCond .eq 27, 3) := by decide +kernel
theorem d_I_isOpenPastWatch_9 : decode b_I_isOpenPastWatch 9 = .ok (.aload_n 0, 1) := by decide +kernel
theorem d_I_isOpenPastWatch_10 : decode b_I_isOpenPastWatch 10 = .ok (.getfield 28, 3) := by decide +kernel
theorem d_I_isOpenPastWatch_13 : decode b_I_isOpenPastWatch 13 = .ok (.iload_n 1, 1) := by decide +kernel
theorem d_I_isOpenPastWatch_14 : decode b_I_isOpenPastWatch 14 = .ok (.iaload, 1) := by decide +kernel
theorem d_I_isOpenPastWatch_15 : decode b_I_isOpenPastWatch 15 = .ok (.iconst (-1), 1) := by decide +kernel
theorem d_I_isOpenPastWatch_16 : decode b_I_isOpenPastWatch 16 = .ok (.if_icmp .eq 17, 3) := by decide +kernel
theorem d_I_isOpenPastWatch_19 : decode b_I_isOpenPastWatch 19 = .ok (.iload_n 2, 1) := by decide +kernel
theorem d_I_isOpenPastWatch_20 : decode b_I_isOpenPastWatch 20 = .ok (.aload_n 0, 1) := by decide +kernel
theorem d_I_isOpenPastWatch_21 : decode b_I_isOpenPastWatch 21 = .ok (.getfield 28, 3) := by decide +kernel
theorem d_I_isOpenPastWatch_24 : decode b_I_isOpenPastWatch 24 = .ok (.iload_n 1, 1) := by decide +kernel
theorem d_I_isOpenPastWatch_25 : decode b_I_isOpenPastWatch 25 = .ok (.iaload, 1) := by decide +kernel
theorem d_I_isOpenPastWatch_26 : decode b_I_isOpenPastWatch 26 = .ok (.if_icmp .lt 7, 3) := by decide +kernel
theorem d_I_isOpenPastWatch_29 : decode b_I_isOpenPastWatch 29 = .ok (.iconst 1, 1) := by decide +kernel
theorem d_I_isOpenPastWatch_30 : decode b_I_isOpenPastWatch 30 = .ok (.goto 4, 3) := by decide +kernel
theorem d_I_isOpenPastWatch_33 : decode b_I_isOpenPastWatch 33 = .ok (.iconst 0, 1) := by decide +kernel
theorem d_I_isOpenPastWatch_34 : decode b_I_isOpenPastWatch 34 = .ok (.ireturn, 1) := by decide +kernel
theorem d_I_countOpen_0 : decode b_I_countOpen 0 = .ok (.iconst 0, 1) := by decide +kernel
theorem d_I_countOpen_1 : decode b_I_countOpen 1 = .ok (.istore_n 1, 1) := by decide +kernel
theorem d_I_countOpen_2 : decode b_I_countOpen 2 = .ok (.iconst 0, 1) := by decide +kernel
theorem d_I_countOpen_3 : decode b_I_countOpen 3 = .ok (.istore_n 2, 1) := by decide +kernel
theorem d_I_countOpen_4 : decode b_I_countOpen 4 = .ok (.iload_n 2, 1) := by decide +kernel
theorem d_I_countOpen_5 : decode b_I_countOpen 5 = .ok (.aload_n 0, 1) := by decide +kernel
theorem d_I_countOpen_6 : decode b_I_countOpen 6 = .ok (.getfield 40, 3) := by decide +kernel
theorem d_I_countOpen_9 : decode b_I_countOpen 9 = .ok (.if_icmp .ge 21, 3) := by decide +kernel
theorem d_I_countOpen_12 : decode b_I_countOpen 12 = .ok (.aload_n 0, 1) := by decide +kernel
theorem d_I_countOpen_13 : decode b_I_countOpen 13 = .ok (.getfield 15, 3) := by decide +kernel
theorem d_I_countOpen_16 : decode b_I_countOpen 16 = .ok (.iload_n 2, 1) := by decide +kernel
theorem d_I_countOpen_17 : decode b_I_countOpen 17 = .ok (.baload, 1) := by decide +kernel
theorem d_I_countOpen_18 : decode b_I_countOpen 18 = .ok (.ifCond .eq 6, 3) := by decide +kernel
theorem d_I_countOpen_21 : decode b_I_countOpen 21 = .ok (.iinc 1 1, 3) := by decide +kernel
theorem d_I_countOpen_24 : decode b_I_countOpen 24 = .ok (.iinc 2 1, 3) := by decide +kernel
theorem d_I_countOpen_27 : decode b_I_countOpen 27 = .ok (.goto (-23), 3) := by decide +kernel
theorem d_I_countOpen_30 : decode b_I_countOpen 30 = .ok (.iload_n 1, 1) := by decide +kernel
theorem d_I_countOpen_31 : decode b_I_countOpen 31 = .ok (.ireturn, 1) := by decide +kernel
theorem d_U_init_0 : decode b_U_init 0 = .ok (.aload_n 0, 1) := by decide +kernel
theorem d_U_init_1 : decode b_U_init 1 = .ok (.invokespecial 3, 3) := by decide +kernel
theorem d_U_init_4 : decode b_U_init 4 = .ok (.aload_n 0, 1) := by decide +kernel
theorem d_U_init_5 : decode b_U_init 5 = .ok (.bipush 24, 2) := by decide +kernel
theorem d_U_init_7 : decode b_U_init 7 = .ok (.newarray .int, 2) := by decide +kernel
theorem d_U_init_9 : decode b_U_init 9 = .ok (.putfield 9, 3) := by decide +kernel
theorem d_U_init_12 : decode b_U_init 12 = .ok (.aload_n 0, 1) := by decide +kernel
theorem d_U_init_13 : decode b_U_init 13 = .ok (.bipush 24, 2) := by decide +kernel
theorem d_U_init_15 : decode b_U_init 15 = .ok (.newarray .int, 2) := by decide +kernel
theorem d_U_init_17 : decode b_U_init 17 = .ok (.putfield 15, 3) := by decide +kernel
theorem d_U_init_20 : decode b_U_init 20 = .ok (.aload_n 0, 1) := by decide +kernel
theorem d_U_init_21 : decode b_U_init 21 = .ok (.bipush 24, 2) := by decide +kernel
theorem d_U_init_23 : decode b_U_init 23 = .ok (.newarray .int, 2) := by decide +kernel
theorem d_U_init_25 : decode b_U_init 25 = .ok (.putfield 18, 3) := by decide +kernel
theorem d_U_init_28 : decode b_U_init 28 = .ok (.aload_n 0, 1) := by decide +kernel
theorem d_U_init_29 : decode b_U_init 29 = .ok (.bipush 24, 2) := by decide +kernel
theorem d_U_init_31 : decode b_U_init 31 = .ok (.newarray .int, 2) := by decide +kernel
theorem d_U_init_33 : decode b_U_init 33 = .ok (.putfield 21, 3) := by decide +kernel
theorem d_U_init_36 : decode b_U_init 36 = .ok (.aload_n 0, 1) := by decide +kernel
theorem d_U_init_37 : decode b_U_init 37 = .ok (.bipush 24, 2) := by decide +kernel
theorem d_U_init_39 : decode b_U_init 39 = .ok (.newarray .int, 2) := by decide +kernel
theorem d_U_init_41 : decode b_U_init 41 = .ok (.putfield 24, 3) := by decide +kernel
theorem d_U_init_44 : decode b_U_init 44 = .ok (.aload_n 0, 1) := by decide +kernel
theorem d_U_init_45 : decode b_U_init 45 = .ok (.bipush 24, 2) := by decide +kernel
theorem d_U_init_47 : decode b_U_init 47 = .ok (.newarray .int, 2) := by decide +kernel
theorem d_U_init_49 : decode b_U_init 49 = .ok (.putfield 27, 3) := by decide +kernel
theorem d_U_init_52 : decode b_U_init 52 = .ok (.aload_n 0, 1) := by decide +kernel
theorem d_U_init_53 : decode b_U_init 53 = .ok (.bipush 24, 2) := by decide +kernel
theorem d_U_init_55 : decode b_U_init 55 = .ok (.newarray .int, 2) := by decide +kernel
theorem d_U_init_57 : decode b_U_init 57 = .ok (.putfield 30, 3) := by decide +kernel
theorem d_U_init_60 : decode b_U_init 60 = .ok (.aload_n 0, 1) := by decide +kernel
theorem d_U_init_61 : decode b_U_init 61 = .ok (.bipush 24, 2) := by decide +kernel
theorem d_U_init_63 : decode b_U_init 63 = .ok (.newarray .int, 2) := by decide +kernel
theorem d_U_init_65 : decode b_U_init 65 = .ok (.putfield 33, 3) := by decide +kernel
theorem d_U_init_68 : decode b_U_init 68 = .ok (.aload_n 0, 1) := by decide +kernel
theorem d_U_init_69 : decode b_U_init 69 = .ok (.bipush 24, 2) := by decide +kernel
theorem d_U_init_71 : decode b_U_init 71 = .ok (.newarray .int, 2) := by decide +kernel
theorem d_U_init_73 : decode b_U_init 73 = .ok (.putfield 36, 3) := by decide +kernel
theorem d_U_init_76 : decode b_U_init 76 = .ok (.aload_n 0, 1) := by decide +kernel
theorem d_U_init_77 : decode b_U_init 77 = .ok (.sipush 144, 3) := by decide +kernel
theorem d_U_init_80 : decode b_U_init 80 = .ok (.newarray .int, 2) := by decide +kernel
theorem d_U_init_82 : decode b_U_init 82 = .ok (.putfield 39, 3) := by decide +kernel
theorem d_U_init_85 : decode b_U_init 85 = .ok (.aload_n 0, 1) := by decide +kernel
theorem d_U_init_86 : decode b_U_init 86 = .ok (.iconst 0, 1) := by decide +kernel
theorem d_U_init_87 : decode b_U_init 87 = .ok (.putfield 42, 3) := by decide +kernel
theorem d_U_init_90 : decode b_U_init 90 = .ok (.return_, 1) := by decide +kernel
theorem d_U_has_0 : decode b_U_has 0 = .ok (.iload_n 1, 1) := by decide +kernel
theorem d_U_has_1 : decode b_U_has 1 = .ok (.ifCond .lt 15, 3) := by decide +kernel
theorem d_U_has_4 : decode b_U_has 4 = .ok (.iload_n 1, 1) := by decide +kernel
theorem d_U_has_5 : decode b_U_has 5 = .ok (.aload_n 0, 1) := by decide +kernel
theorem d_U_has_6 : decode b_U_has 6 = .ok (.getfield 42, 3) := by decide +kernel
theorem d_U_has_9 : decode b_U_has 9 = .ok (.if_icmp .ge 7, 3) := by decide +kernel
theorem d_U_has_12 : decode b_U_has 12 = .ok (.iconst 1, 1) := by decide +kernel
theorem d_U_has_13 : decode b_U_has 13 = .ok (.goto 4, 3) := by decide +kernel
theorem d_U_has_16 : decode b_U_has 16 = .ok (.iconst 0, 1) := by decide +kernel
theorem d_U_has_17 : decode b_U_has 17 = .ok (.ireturn, 1) := by decide +kernel
theorem d_U_addUnit_0 : decode b_U_addUnit 0 = .ok (.aload_n 0, 1) := by decide +kernel
theorem d_U_addUnit_1 : decode b_U_addUnit 1 = .ok (.getfield 42, 3) := by decide +kernel
theorem d_U_addUnit_4 : decode b_U_addUnit 4 = .ok (.istore_n 3, 1) := by decide +kernel
theorem d_U_addUnit_5 : decode b_U_addUnit 5 = .ok (.aload_n 0, 1) := by decide +kernel
theorem d_U_addUnit_6 : decode b_U_addUnit 6 = .ok (.dup, 1) := by decide +kernel
theorem d_U_addUnit_7 : decode b_U_addUnit 7 = .ok (.getfield 42, 3) := by decide +kernel
theorem d_U_addUnit_10 : decode b_U_addUnit 10 = .ok (.iconst 1, 1) := by decide +kernel
theorem d_U_addUnit_11 : decode b_U_addUnit 11 = .ok (.iadd, 1) := by decide +kernel
theorem d_U_addUnit_12 : decode b_U_addUnit 12 = .ok (.putfield 42, 3) := by decide +kernel
theorem d_U_addUnit_15 : decode b_U_addUnit 15 = .ok (.aload_n 0, 1) := by decide +kernel
theorem d_U_addUnit_16 : decode b_U_addUnit 16 = .ok (.getfield 9, 3) := by decide +kernel
theorem d_U_addUnit_19 : decode b_U_addUnit 19 = .ok (.iload_n 3, 1) := by decide +kernel
theorem d_U_addUnit_20 : decode b_U_addUnit 20 = .ok (.iload_n 1, 1) := by decide +kernel
theorem d_U_addUnit_21 : decode b_U_addUnit 21 = .ok (.iastore, 1) := by decide +kernel
theorem d_U_addUnit_22 : decode b_U_addUnit 22 = .ok (.aload_n 0, 1) := by decide +kernel
theorem d_U_addUnit_23 : decode b_U_addUnit 23 = .ok (.iload_n 3, 1) := by decide +kernel
theorem d_U_addUnit_24 : decode b_U_addUnit 24 = .ok (.iconst 0, 1) := by decide +kernel
theorem d_U_addUnit_25 : decode b_U_addUnit 25 = .ok (.iload_n 2, 1) := by decide +kernel
theorem d_U_addUnit_26 : decode b_U_addUnit 26 = .ok (.invokevirtual 46, 3) := by decide +kernel
theorem d_U_addUnit_29 : decode b_U_addUnit 29 = .ok (.iload_n 3, 1) := by decide +kernel
theorem d_U_addUnit_30 : decode b_U_addUnit 30 = .ok (.ireturn, 1) := by decide +kernel
theorem d_U_setWork_0 : decode b_U_setWork 0 = .ok (.aload_n 0, 1) := by decide +kernel
theorem d_U_setWork_1 : decode b_U_setWork 1 = .ok (.getfield 15, 3) := by decide +kernel
theorem d_U_setWork_4 : decode b_U_setWork 4 = .ok (.iload_n 1, 1) := by decide +kernel
theorem d_U_setWork_5 : decode b_U_setWork 5 = .ok (.iload_n 2, 1) := by decide +kernel
theorem d_U_setWork_6 : decode b_U_setWork 6 = .ok (.iastore, 1) := by decide +kernel
theorem d_U_setWork_7 : decode b_U_setWork 7 = .ok (.aload_n 0, 1) := by decide +kernel
theorem d_U_setWork_8 : decode b_U_setWork 8 = .ok (.getfield 18, 3) := by decide +kernel
theorem d_U_setWork_11 : decode b_U_setWork 11 = .ok (.iload_n 1, 1) := by decide +kernel
theorem d_U_setWork_12 : decode b_U_setWork 12 = .ok (.iload_n 3, 1) := by decide +kernel
theorem d_U_setWork_13 : decode b_U_setWork 13 = .ok (.iastore, 1) := by decide +kernel
theorem d_U_setWork_14 : decode b_U_setWork 14 = .ok (.aload_n 0, 1) := by decide +kernel
theorem d_U_setWork_15 : decode b_U_setWork 15 = .ok (.getfield 21, 3) := by decide +kernel
theorem d_U_setWork_18 : decode b_U_setWork 18 = .ok (.iload_n 1, 1) := by decide +kernel
theorem d_U_setWork_19 : decode b_U_setWork 19 = .ok (.iload 4, 2) := by decide +kernel
theorem d_U_setWork_21 : decode b_U_setWork 21 = .ok (.iastore, 1) := by decide +kernel
theorem d_U_setWork_22 : decode b_U_setWork 22 = .ok (.return_, 1) := by decide +kernel
theorem d_U_become_0 : decode b_U_become 0 = .ok (.aload_n 0, 1) := by decide +kernel
theorem d_U_become_1 : decode b_U_become 1 = .ok (.getfield 27, 3) := by decide +kernel
theorem d_U_become_4 : decode b_U_become 4 = .ok (.iload_n 1, 1) := by decide +kernel
theorem d_U_become_5 : decode b_U_become 5 = .ok (.iload_n 2, 1) := by decide +kernel
theorem d_U_become_6 : decode b_U_become 6 = .ok (.iastore, 1) := by decide +kernel
theorem d_U_become_7 : decode b_U_become 7 = .ok (.aload_n 0, 1) := by decide +kernel
theorem d_U_become_8 : decode b_U_become 8 = .ok (.getfield 30, 3) := by decide +kernel
theorem d_U_become_11 : decode b_U_become 11 = .ok (.iload_n 1, 1) := by decide +kernel
theorem d_U_become_12 : decode b_U_become 12 = .ok (.iconst (-1), 1) := by decide +kernel
theorem d_U_become_13 : decode b_U_become 13 = .ok (.iastore, 1) := by decide +kernel
theorem d_U_become_14 : decode b_U_become 14 = .ok (.aload_n 0, 1) := by decide +kernel
theorem d_U_become_15 : decode b_U_become 15 = .ok (.getfield 33, 3) := by decide +kernel
theorem d_U_become_18 : decode b_U_become 18 = .ok (.iload_n 1, 1) := by decide +kernel
theorem d_U_become_19 : decode b_U_become 19 = .ok (.iload_n 3, 1) := by decide +kernel
theorem d_U_become_20 : decode b_U_become 20 = .ok (.iastore, 1) := by decide +kernel
theorem d_U_become_21 : decode b_U_become 21 = .ok (.return_, 1) := by decide +kernel
theorem d_U_goTo_0 : decode b_U_goTo 0 = .ok (.aload_n 0, 1) := by decide +kernel
theorem d_U_goTo_1 : decode b_U_goTo 1 = .ok (.iload_n 1, 1) := by decide +kernel
theorem d_U_goTo_2 : decode b_U_goTo 2 = .ok (.iconst 1, 1) := by decide +kernel
theorem d_U_goTo_3 : decode b_U_goTo 3 = .ok (.iload_n 3, 1) := by decide +kernel
theorem d_U_goTo_4 : decode b_U_goTo 4 = .ok (.invokevirtual 46, 3) := by decide +kernel
theorem d_U_goTo_7 : decode b_U_goTo 7 = .ok (.aload_n 0, 1) := by decide +kernel
theorem d_U_goTo_8 : decode b_U_goTo 8 = .ok (.getfield 30, 3) := by decide +kernel
theorem d_U_goTo_11 : decode b_U_goTo 11 = .ok (.iload_n 1, 1) := by decide +kernel
theorem d_U_goTo_12 : decode b_U_goTo 12 = .ok (.iload_n 2, 1) := by decide +kernel
theorem d_U_goTo_13 : decode b_U_goTo 13 = .ok (.iastore, 1) := by decide +kernel
theorem d_U_goTo_14 : decode b_U_goTo 14 = .ok (.aload_n 0, 1) := by decide +kernel
theorem d_U_goTo_15 : decode b_U_goTo 15 = .ok (.getfield 36, 3) := by decide +kernel
theorem d_U_goTo_18 : decode b_U_goTo 18 = .ok (.iload_n 1, 1) := by decide +kernel
theorem d_U_goTo_19 : decode b_U_goTo 19 = .ok (.dup2, 1) := by decide +kernel
theorem d_U_goTo_20 : decode b_U_goTo 20 = .ok (.iaload, 1) := by decide +kernel
theorem d_U_goTo_21 : decode b_U_goTo 21 = .ok (.iconst 1, 1) := by decide +kernel
theorem d_U_goTo_22 : decode b_U_goTo 22 = .ok (.iadd, 1) := by decide +kernel
theorem d_U_goTo_23 : decode b_U_goTo 23 = .ok (.iastore, 1) := by decide +kernel
theorem d_U_goTo_24 : decode b_U_goTo 24 = .ok (.return_, 1) := by decide +kernel
theorem d_U_goOn_0 : decode b_U_goOn 0 = .ok (.aload_n 0, 1) := by decide +kernel
theorem d_U_goOn_1 : decode b_U_goOn 1 = .ok (.getfield 27, 3) := by decide +kernel
theorem d_U_goOn_4 : decode b_U_goOn 4 = .ok (.iload_n 1, 1) := by decide +kernel
theorem d_U_goOn_5 : decode b_U_goOn 5 = .ok (.iaload, 1) := by decide +kernel
theorem d_U_goOn_6 : decode b_U_goOn 6 = .ok (.iconst 3, 1) := by decide +kernel
theorem d_U_goOn_7 : decode b_U_goOn 7 = .ok (.if_icmp .ne 19, 3) := by decide +kernel
theorem d_U_goOn_10 : decode b_U_goOn 10 = .ok (.iload_n 3, 1) := by decide +kernel
theorem d_U_goOn_11 : decode b_U_goOn 11 = .ok (.aload_n 0, 1) := by decide +kernel
theorem d_U_goOn_12 : decode b_U_goOn 12 = .ok (.iload_n 1, 1) := by decide +kernel
theorem d_U_goOn_13 : decode b_U_goOn 13 = .ok (.invokevirtual 50, 3) := by decide +kernel
theorem d_U_goOn_16 : decode b_U_goOn 16 = .ok (.if_icmp .lt 10, 3) := by decide +kernel
theorem d_U_goOn_19 : decode b_U_goOn 19 = .ok (.aload_n 0, 1) := by decide +kernel
theorem d_U_goOn_20 : decode b_U_goOn 20 = .ok (.iload_n 1, 1) := by decide +kernel
theorem d_U_goOn_21 : decode b_U_goOn 21 = .ok (.iconst 4, 1) := by decide +kernel
theorem d_U_goOn_22 : decode b_U_goOn 22 = .ok (.iload_n 3, 1) := by decide +kernel
theorem d_U_goOn_23 : decode b_U_goOn 23 = .ok (.invokevirtual 46, 3) := by decide +kernel
theorem d_U_goOn_26 : decode b_U_goOn 26 = .ok (.aload_n 0, 1) := by decide +kernel
theorem d_U_goOn_27 : decode b_U_goOn 27 = .ok (.getfield 27, 3) := by decide +kernel
theorem d_U_goOn_30 : decode b_U_goOn 30 = .ok (.iload_n 1, 1) := by decide +kernel
theorem d_U_goOn_31 : decode b_U_goOn 31 = .ok (.iaload, 1) := by decide +kernel
theorem d_U_goOn_32 : decode b_U_goOn 32 = .ok (.iconst 4, 1) := by decide +kernel
theorem d_U_goOn_33 : decode b_U_goOn 33 = .ok (.if_icmp .ne 41, 3) := by decide +kernel
theorem d_U_goOn_36 : decode b_U_goOn 36 = .ok (.iload_n 3, 1) := by decide +kernel
theorem d_U_goOn_37 : decode b_U_goOn 37 = .ok (.aload_n 0, 1) := by decide +kernel
theorem d_U_goOn_38 : decode b_U_goOn 38 = .ok (.iload_n 1, 1) := by decide +kernel
theorem d_U_goOn_39 : decode b_U_goOn 39 = .ok (.invokevirtual 50, 3) := by decide +kernel
theorem d_U_goOn_42 : decode b_U_goOn 42 = .ok (.if_icmp .lt 32, 3) := by decide +kernel
theorem d_U_goOn_45 : decode b_U_goOn 45 = .ok (.aload_n 0, 1) := by decide +kernel
theorem d_U_goOn_46 : decode b_U_goOn 46 = .ok (.iload_n 1, 1) := by decide +kernel
theorem d_U_goOn_47 : decode b_U_goOn 47 = .ok (.aload_n 2, 1) := by decide +kernel
theorem d_U_goOn_48 : decode b_U_goOn 48 = .ok (.invokevirtual 54, 3) := by decide +kernel
theorem d_U_goOn_51 : decode b_U_goOn 51 = .ok (.ifCond .eq 23, 3) := by decide +kernel
theorem d_U_goOn_54 : decode b_U_goOn 54 = .ok (.aload_n 0, 1) := by decide +kernel
theorem d_U_goOn_55 : decode b_U_goOn 55 = .ok (.iload_n 1, 1) := by decide +kernel
theorem d_U_goOn_56 : decode b_U_goOn 56 = .ok (.aload_n 2, 1) := by decide +kernel
theorem d_U_goOn_57 : decode b_U_goOn 57 = .ok (.invokevirtual 58, 3) := by decide +kernel
theorem d_U_goOn_60 : decode b_U_goOn 60 = .ok (.aload_n 0, 1) := by decide +kernel
theorem d_U_goOn_61 : decode b_U_goOn 61 = .ok (.getfield 24, 3) := by decide +kernel
theorem d_U_goOn_64 : decode b_U_goOn 64 = .ok (.iload_n 1, 1) := by decide +kernel
theorem d_U_goOn_65 : decode b_U_goOn 65 = .ok (.iconst 0, 1) := by decide +kernel
theorem d_U_goOn_66 : decode b_U_goOn 66 = .ok (.iastore, 1) := by decide +kernel
theorem d_U_goOn_67 : decode b_U_goOn 67 = .ok (.aload_n 0, 1) := by decide +kernel
theorem d_U_goOn_68 : decode b_U_goOn 68 = .ok (.iload_n 1, 1) := by decide +kernel
theorem d_U_goOn_69 : decode b_U_goOn 69 = .ok (.iconst 5, 1) := by decide +kernel
theorem d_U_goOn_70 : decode b_U_goOn 70 = .ok (.iload_n 3, 1) := by decide +kernel
theorem d_U_goOn_71 : decode b_U_goOn 71 = .ok (.invokevirtual 46, 3) := by decide +kernel
theorem d_U_goOn_74 : decode b_U_goOn 74 = .ok (.aload_n 0, 1) := by decide +kernel
theorem d_U_goOn_75 : decode b_U_goOn 75 = .ok (.getfield 27, 3) := by decide +kernel
theorem d_U_goOn_78 : decode b_U_goOn 78 = .ok (.iload_n 1, 1) := by decide +kernel
theorem d_U_goOn_79 : decode b_U_goOn 79 = .ok (.iaload, 1) := by decide +kernel
theorem d_U_goOn_80 : decode b_U_goOn 80 = .ok (.iconst 5, 1) := by decide +kernel
theorem d_U_goOn_81 : decode b_U_goOn 81 = .ok (.if_icmp .ne 18, 3) := by decide +kernel
theorem d_U_goOn_84 : decode b_U_goOn 84 = .ok (.aload_n 0, 1) := by decide +kernel
theorem d_U_goOn_85 : decode b_U_goOn 85 = .ok (.iload_n 1, 1) := by decide +kernel
theorem d_U_goOn_86 : decode b_U_goOn 86 = .ok (.invokevirtual 62, 3) := by decide +kernel
theorem d_U_goOn_89 : decode b_U_goOn 89 = .ok (.ifCond .ne 10, 3) := by decide +kernel
theorem d_U_goOn_92 : decode b_U_goOn 92 = .ok (.aload_n 0, 1) := by decide +kernel
theorem d_U_goOn_93 : decode b_U_goOn 93 = .ok (.iload_n 1, 1) := by decide +kernel
theorem d_U_goOn_94 : decode b_U_goOn 94 = .ok (.iconst 0, 1) := by decide +kernel
theorem d_U_goOn_95 : decode b_U_goOn 95 = .ok (.iload_n 3, 1) := by decide +kernel
theorem d_U_goOn_96 : decode b_U_goOn 96 = .ok (.invokevirtual 46, 3) := by decide +kernel
theorem d_U_goOn_99 : decode b_U_goOn 99 = .ok (.return_, 1) := by decide +kernel
theorem d_U_workEnd_0 : decode b_U_workEnd 0 = .ok (.aload_n 0, 1) := by decide +kernel
theorem d_U_workEnd_1 : decode b_U_workEnd 1 = .ok (.getfield 27, 3) := by decide +kernel
theorem d_U_workEnd_4 : decode b_U_workEnd 4 = .ok (.iload_n 1, 1) := by decide +kernel
theorem d_U_workEnd_5 : decode b_U_workEnd 5 = .ok (.iaload, 1) := by decide +kernel
theorem d_U_workEnd_6 : decode b_U_workEnd 6 = .ok (.iconst 3, 1) := by decide +kernel
theorem d_U_workEnd_7 : decode b_U_workEnd 7 = .ok (.if_icmp .ne 17, 3) := by decide +kernel
theorem d_U_workEnd_10 : decode b_U_workEnd 10 = .ok (.aload_n 0, 1) := by decide +kernel
theorem d_U_workEnd_11 : decode b_U_workEnd 11 = .ok (.getfield 33, 3) := by decide +kernel
theorem d_U_workEnd_14 : decode b_U_workEnd 14 = .ok (.iload_n 1, 1) := by decide +kernel
theorem d_U_workEnd_15 : decode b_U_workEnd 15 = .ok (.iaload, 1) := by decide +kernel
theorem d_U_workEnd_16 : decode b_U_workEnd 16 = .ok (.aload_n 0, 1) := by decide +kernel
theorem d_U_workEnd_17 : decode b_U_workEnd 17 = .ok (.getfield 15, 3) := by decide +kernel
theorem d_U_workEnd_20 : decode b_U_workEnd 20 = .ok (.iload_n 1, 1) := by decide +kernel
theorem d_U_workEnd_21 : decode b_U_workEnd 21 = .ok (.iaload, 1) := by decide +kernel
theorem d_U_workEnd_22 : decode b_U_workEnd 22 = .ok (.iadd, 1) := by decide +kernel
theorem d_U_workEnd_23 : decode b_U_workEnd 23 = .ok (.ireturn, 1) := by decide +kernel
theorem d_U_workEnd_24 : decode b_U_workEnd 24 = .ok (.aload_n 0, 1) := by decide +kernel
theorem d_U_workEnd_25 : decode b_U_workEnd 25 = .ok (.getfield 27, 3) := by decide +kernel
theorem d_U_workEnd_28 : decode b_U_workEnd 28 = .ok (.iload_n 1, 1) := by decide +kernel
theorem d_U_workEnd_29 : decode b_U_workEnd 29 = .ok (.iaload, 1) := by decide +kernel
theorem d_U_workEnd_30 : decode b_U_workEnd 30 = .ok (.iconst 4, 1) := by decide +kernel
theorem d_U_workEnd_31 : decode b_U_workEnd 31 = .ok (.if_icmp .ne 19, 3) := by decide +kernel
theorem d_U_workEnd_34 : decode b_U_workEnd 34 = .ok (.aload_n 0, 1) := by decide +kernel
theorem d_U_workEnd_35 : decode b_U_workEnd 35 = .ok (.getfield 33, 3) := by decide +kernel
theorem d_U_workEnd_38 : decode b_U_workEnd 38 = .ok (.iload_n 1, 1) := by decide +kernel
theorem d_U_workEnd_39 : decode b_U_workEnd 39 = .ok (.iaload, 1) := by decide +kernel
theorem d_U_workEnd_40 : decode b_U_workEnd 40 = .ok (.aload_n 0, 1) := by decide +kernel
theorem d_U_workEnd_41 : decode b_U_workEnd 41 = .ok (.getfield 18, 3) := by decide +kernel
theorem d_U_workEnd_44 : decode b_U_workEnd 44 = .ok (.iload_n 1, 1) := by decide +kernel
theorem d_U_workEnd_45 : decode b_U_workEnd 45 = .ok (.iaload, 1) := by decide +kernel
theorem d_U_workEnd_46 : decode b_U_workEnd 46 = .ok (.iadd, 1) := by decide +kernel
theorem d_U_workEnd_47 : decode b_U_workEnd 47 = .ok (.goto 4, 3) := by decide +kernel
theorem d_U_workEnd_50 : decode b_U_workEnd 50 = .ok (.iconst (-1), 1) := by decide +kernel
theorem d_U_workEnd_51 : decode b_U_workEnd 51 = .ok (.ireturn, 1) := by decide +kernel
theorem d_U_checksToDo_0 : decode b_U_checksToDo 0 = .ok (.aload_n 0, 1) := by decide +kernel
theorem d_U_checksToDo_1 : decode b_U_checksToDo 1 = .ok (.getfield 21, 3) := by decide +kernel
theorem d_U_checksToDo_4 : decode b_U_checksToDo 4 = .ok (.iload_n 1, 1) := by decide +kernel
theorem d_U_checksToDo_5 : decode b_U_checksToDo 5 = .ok (.iaload, 1) := by decide +kernel
theorem d_U_checksToDo_6 : decode b_U_checksToDo 6 = .ok (.aload_n 0, 1) := by decide +kernel
theorem d_U_checksToDo_7 : decode b_U_checksToDo 7 = .ok (.getfield 24, 3) := by decide +kernel
theorem d_U_checksToDo_10 : decode b_U_checksToDo 10 = .ok (.iload_n 1, 1) := by decide +kernel
theorem d_U_checksToDo_11 : decode b_U_checksToDo 11 = .ok (.iaload, 1) := by decide +kernel
theorem d_U_checksToDo_12 : decode b_U_checksToDo 12 = .ok (.iconst (-1), 1) := by decide +kernel
theorem d_U_checksToDo_13 : decode b_U_checksToDo 13 = .ok (.ixor, 1) := by decide +kernel
theorem d_U_checksToDo_14 : decode b_U_checksToDo 14 = .ok (.iand, 1) := by decide +kernel
theorem d_U_checksToDo_15 : decode b_U_checksToDo 15 = .ok (.ireturn, 1) := by decide +kernel
theorem d_U_nearestReady_0 : decode b_U_nearestReady 0 = .ok (.iconst (-1), 1) := by decide +kernel
theorem d_U_nearestReady_1 : decode b_U_nearestReady 1 = .ok (.istore_n 1, 1) := by decide +kernel
theorem d_U_nearestReady_2 : decode b_U_nearestReady 2 = .ok (.iconst 0, 1) := by decide +kernel
theorem d_U_nearestReady_3 : decode b_U_nearestReady 3 = .ok (.istore_n 2, 1) := by decide +kernel
theorem d_U_nearestReady_4 : decode b_U_nearestReady 4 = .ok (.iload_n 2, 1) := by decide +kernel
theorem d_U_nearestReady_5 : decode b_U_nearestReady 5 = .ok (.aload_n 0, 1) := by decide +kernel
theorem d_U_nearestReady_6 : decode b_U_nearestReady 6 = .ok (.getfield 42, 3) := by decide +kernel
theorem d_U_nearestReady_9 : decode b_U_nearestReady 9 = .ok (.if_icmp .ge 40, 3) := by decide +kernel
theorem d_U_nearestReady_12 : decode b_U_nearestReady 12 = .ok (.aload_n 0, 1) := by decide +kernel
theorem d_U_nearestReady_13 : decode b_U_nearestReady 13 = .ok (.getfield 27, 3) := by decide +kernel
theorem d_U_nearestReady_16 : decode b_U_nearestReady 16 = .ok (.iload_n 2, 1) := by decide +kernel
theorem d_U_nearestReady_17 : decode b_U_nearestReady 17 = .ok (.iaload, 1) := by decide +kernel
theorem d_U_nearestReady_18 : decode b_U_nearestReady 18 = .ok (.ifCond .ne 25, 3) := by decide +kernel
theorem d_U_nearestReady_21 : decode b_U_nearestReady 21 = .ok (.iload_n 1, 1) := by decide +kernel
theorem d_U_nearestReady_22 : decode b_U_nearestReady 22 = .ok (.iconst (-1), 1) := by decide +kernel
theorem d_U_nearestReady_23 : decode b_U_nearestReady 23 = .ok (.if_icmp .eq 18, 3) := by decide +kernel
theorem d_U_nearestReady_26 : decode b_U_nearestReady 26 = .ok (.aload_n 0, 1) := by decide +kernel
theorem d_U_nearestReady_27 : decode b_U_nearestReady 27 = .ok (.getfield 9, 3) := by decide +kernel
theorem d_U_nearestReady_30 : decode b_U_nearestReady 30 = .ok (.iload_n 2, 1) := by decide +kernel
theorem d_U_nearestReady_31 : decode b_U_nearestReady 31 = .ok (.iaload, 1) := by decide +kernel
theorem d_U_nearestReady_32 : decode b_U_nearestReady 32 = .ok (.aload_n 0, 1) := by decide +kernel
theorem d_U_nearestReady_33 : decode b_U_nearestReady 33 = .ok (.getfield 9, 3) := by decide +kernel
theorem d_U_nearestReady_36 : decode b_U_nearestReady 36 = .ok (.iload_n 1, 1) := by decide +kernel
theorem d_U_nearestReady_37 : decode b_U_nearestReady 37 = .ok (.iaload, 1) := by decide +kernel
theorem d_U_nearestReady_38 : decode b_U_nearestReady 38 = .ok (.if_icmp .ge 5, 3) := by decide +kernel
theorem d_U_nearestReady_41 : decode b_U_nearestReady 41 = .ok (.iload_n 2, 1) := by decide +kernel
theorem d_U_nearestReady_42 : decode b_U_nearestReady 42 = .ok (.istore_n 1, 1) := by decide +kernel
theorem d_U_nearestReady_43 : decode b_U_nearestReady 43 = .ok (.iinc 2 1, 3) := by decide +kernel
theorem d_U_nearestReady_46 : decode b_U_nearestReady 46 = .ok (.goto (-42), 3) := by decide +kernel
theorem d_U_nearestReady_49 : decode b_U_nearestReady 49 = .ok (.iload_n 1, 1) := by decide +kernel
theorem d_U_nearestReady_50 : decode b_U_nearestReady 50 = .ok (.ireturn, 1) := by decide +kernel
theorem d_U_farthestAt_0 : decode b_U_farthestAt 0 = .ok (.iconst (-1), 1) := by decide +kernel
theorem d_U_farthestAt_1 : decode b_U_farthestAt 1 = .ok (.istore_n 2, 1) := by decide +kernel
theorem d_U_farthestAt_2 : decode b_U_farthestAt 2 = .ok (.iconst 0, 1) := by decide +kernel
theorem d_U_farthestAt_3 : decode b_U_farthestAt 3 = .ok (.istore_n 3, 1) := by decide +kernel
theorem d_U_farthestAt_4 : decode b_U_farthestAt 4 = .ok (.iload_n 3, 1) := by decide +kernel
theorem d_U_farthestAt_5 : decode b_U_farthestAt 5 = .ok (.aload_n 0, 1) := by decide +kernel
theorem d_U_farthestAt_6 : decode b_U_farthestAt 6 = .ok (.getfield 42, 3) := by decide +kernel
theorem d_U_farthestAt_9 : decode b_U_farthestAt 9 = .ok (.if_icmp .ge 41, 3) := by decide +kernel
theorem d_U_farthestAt_12 : decode b_U_farthestAt 12 = .ok (.aload_n 0, 1) := by decide +kernel
theorem d_U_farthestAt_13 : decode b_U_farthestAt 13 = .ok (.getfield 30, 3) := by decide +kernel
theorem d_U_farthestAt_16 : decode b_U_farthestAt 16 = .ok (.iload_n 3, 1) := by decide +kernel
theorem d_U_farthestAt_17 : decode b_U_farthestAt 17 = .ok (.iaload, 1) := by decide +kernel
theorem d_U_farthestAt_18 : decode b_U_farthestAt 18 = .ok (.iload_n 1, 1) := by decide +kernel
theorem d_U_farthestAt_19 : decode b_U_farthestAt 19 = .ok (.if_icmp .ne 25, 3) := by decide +kernel
theorem d_U_farthestAt_22 : decode b_U_farthestAt 22 = .ok (.iload_n 2, 1) := by decide +kernel
theorem d_U_farthestAt_23 : decode b_U_farthestAt 23 = .ok (.iconst (-1), 1) := by decide +kernel
theorem d_U_farthestAt_24 : decode b_U_farthestAt 24 = .ok (.if_icmp .eq 18, 3) := by decide +kernel
theorem d_U_farthestAt_27 : decode b_U_farthestAt 27 = .ok (.aload_n 0, 1) := by decide +kernel
theorem d_U_farthestAt_28 : decode b_U_farthestAt 28 = .ok (.getfield 9, 3) := by decide +kernel
theorem d_U_farthestAt_31 : decode b_U_farthestAt 31 = .ok (.iload_n 3, 1) := by decide +kernel
theorem d_U_farthestAt_32 : decode b_U_farthestAt 32 = .ok (.iaload, 1) := by decide +kernel
theorem d_U_farthestAt_33 : decode b_U_farthestAt 33 = .ok (.aload_n 0, 1) := by decide +kernel
theorem d_U_farthestAt_34 : decode b_U_farthestAt 34 = .ok (.getfield 9, 3) := by decide +kernel
theorem d_U_farthestAt_37 : decode b_U_farthestAt 37 = .ok (.iload_n 2, 1) := by decide +kernel
theorem d_U_farthestAt_38 : decode b_U_farthestAt 38 = .ok (.iaload, 1) := by decide +kernel
theorem d_U_farthestAt_39 : decode b_U_farthestAt 39 = .ok (.if_icmp .le 5, 3) := by decide +kernel
theorem d_U_farthestAt_42 : decode b_U_farthestAt 42 = .ok (.iload_n 3, 1) := by decide +kernel
theorem d_U_farthestAt_43 : decode b_U_farthestAt 43 = .ok (.istore_n 2, 1) := by decide +kernel
theorem d_U_farthestAt_44 : decode b_U_farthestAt 44 = .ok (.iinc 3 1, 3) := by decide +kernel
theorem d_U_farthestAt_47 : decode b_U_farthestAt 47 = .ok (.goto (-43), 3) := by decide +kernel
theorem d_U_farthestAt_50 : decode b_U_farthestAt 50 = .ok (.iload_n 2, 1) := by decide +kernel
theorem d_U_farthestAt_51 : decode b_U_farthestAt 51 = .ok (.ireturn, 1) := by decide +kernel
theorem d_U_countAt_0 : decode b_U_countAt 0 = .ok (.iconst 0, 1) := by decide +kernel
theorem d_U_countAt_1 : decode b_U_countAt 1 = .ok (.istore_n 2, 1) := by decide +kernel
theorem d_U_countAt_2 : decode b_U_countAt 2 = .ok (.iconst 0, 1) := by decide +kernel
theorem d_U_countAt_3 : decode b_U_countAt 3 = .ok (.istore_n 3, 1) := by decide +kernel
theorem d_U_countAt_4 : decode b_U_countAt 4 = .ok (.iload_n 3, 1) := by decide +kernel
theorem d_U_countAt_5 : decode b_U_countAt 5 = .ok (.aload_n 0, 1) := by decide +kernel
theorem d_U_countAt_6 : decode b_U_countAt 6 = .ok (.getfield 42, 3) := by decide +kernel
theorem d_U_countAt_9 : decode b_U_countAt 9 = .ok (.if_icmp .ge 22, 3) := by decide +kernel
theorem d_U_countAt_12 : decode b_U_countAt 12 = .ok (.aload_n 0, 1) := by decide +kernel
theorem d_U_countAt_13 : decode b_U_countAt 13 = .ok (.getfield 30, 3) := by decide +kernel
theorem d_U_countAt_16 : decode b_U_countAt 16 = .ok (.iload_n 3, 1) := by decide +kernel
theorem d_U_countAt_17 : decode b_U_countAt 17 = .ok (.iaload, 1) := by decide +kernel
theorem d_U_countAt_18 : decode b_U_countAt 18 = .ok (.iload_n 1, 1) := by decide +kernel
theorem d_U_countAt_19 : decode b_U_countAt 19 = .ok (.if_icmp .ne 6, 3) := by decide +kernel
theorem d_U_countAt_22 : decode b_U_countAt 22 = .ok (.iinc 2 1, 3) := by decide +kernel
theorem d_U_countAt_25 : decode b_U_countAt 25 = .ok (.iinc 3 1, 3) := by decide +kernel
theorem d_U_countAt_28 : decode b_U_countAt 28 = .ok (.goto (-24), 3) := by decide +kernel
theorem d_U_countAt_31 : decode b_U_countAt 31 = .ok (.iload_n 2, 1) := by decide +kernel
theorem d_U_countAt_32 : decode b_U_countAt 32 = .ok (.ireturn, 1) := by decide +kernel
theorem d_U_countReady_0 : decode b_U_countReady 0 = .ok (.iconst 0, 1) := by decide +kernel
theorem d_U_countReady_1 : decode b_U_countReady 1 = .ok (.istore_n 1, 1) := by decide +kernel
theorem d_U_countReady_2 : decode b_U_countReady 2 = .ok (.iconst 0, 1) := by decide +kernel
theorem d_U_countReady_3 : decode b_U_countReady 3 = .ok (.istore_n 2, 1) := by decide +kernel
theorem d_U_countReady_4 : decode b_U_countReady 4 = .ok (.iload_n 2, 1) := by decide +kernel
theorem d_U_countReady_5 : decode b_U_countReady 5 = .ok (.aload_n 0, 1) := by decide +kernel
theorem d_U_countReady_6 : decode b_U_countReady 6 = .ok (.getfield 42, 3) := by decide +kernel
theorem d_U_countReady_9 : decode b_U_countReady 9 = .ok (.if_icmp .ge 21, 3) := by decide +kernel
theorem d_U_countReady_12 : decode b_U_countReady 12 = .ok (.aload_n 0, 1) := by decide +kernel
theorem d_U_countReady_13 : decode b_U_countReady 13 = .ok (.getfield 27, 3) := by decide +kernel
theorem d_U_countReady_16 : decode b_U_countReady 16 = .ok (.iload_n 2, 1) := by decide +kernel
theorem d_U_countReady_17 : decode b_U_countReady 17 = .ok (.iaload, 1) := by decide +kernel
theorem d_U_countReady_18 : decode b_U_countReady 18 = .ok (.ifCond .ne 6, 3) := by decide +kernel
theorem d_U_countReady_21 : decode b_U_countReady 21 = .ok (.iinc 1 1, 3) := by decide +kernel
theorem d_U_countReady_24 : decode b_U_countReady 24 = .ok (.iinc 2 1, 3) := by decide +kernel
theorem d_U_countReady_27 : decode b_U_countReady 27 = .ok (.goto (-23), 3) := by decide +kernel
theorem d_U_countReady_30 : decode b_U_countReady 30 = .ok (.iload_n 1, 1) := by decide +kernel
theorem d_U_countReady_31 : decode b_U_countReady 31 = .ok (.ireturn, 1) := by decide +kernel
theorem d_U_canRefill_0 : decode b_U_canRefill 0 = .ok (.iconst 0, 1) := by decide +kernel
theorem d_U_canRefill_1 : decode b_U_canRefill 1 = .ok (.istore_n 3, 1) := by decide +kernel
theorem d_U_canRefill_2 : decode b_U_canRefill 2 = .ok (.iload_n 3, 1) := by decide +kernel
theorem d_U_canRefill_3 : decode b_U_canRefill 3 = .ok (.bipush 6, 2) := by decide +kernel
theorem d_U_canRefill_5 : decode b_U_canRefill 5 = .ok (.if_icmp .ge 28, 3) := by decide +kernel
theorem d_U_canRefill_8 : decode b_U_canRefill 8 = .ok (.aload_n 0, 1) := by decide +kernel
theorem d_U_canRefill_9 : decode b_U_canRefill 9 = .ok (.getfield 39, 3) := by decide +kernel
theorem d_U_canRefill_12 : decode b_U_canRefill 12 = .ok (.iload_n 1, 1) := by decide +kernel
theorem d_U_canRefill_13 : decode b_U_canRefill 13 = .ok (.bipush 6, 2) := by decide +kernel
theorem d_U_canRefill_15 : decode b_U_canRefill 15 = .ok (.imul, 1) := by decide +kernel
theorem d_U_canRefill_16 : decode b_U_canRefill 16 = .ok (.iload_n 3, 1) := by decide +kernel
theorem d_U_canRefill_17 : decode b_U_canRefill 17 = .ok (.iadd, 1) := by decide +kernel
theorem d_U_canRefill_18 : decode b_U_canRefill 18 = .ok (.iaload, 1) := by decide +kernel
theorem d_U_canRefill_19 : decode b_U_canRefill 19 = .ok (.aload_n 2, 1) := by decide +kernel
theorem d_U_canRefill_20 : decode b_U_canRefill 20 = .ok (.iload_n 3, 1) := by decide +kernel
theorem d_U_canRefill_21 : decode b_U_canRefill 21 = .ok (.iaload, 1) := by decide +kernel
theorem d_U_canRefill_22 : decode b_U_canRefill 22 = .ok (.if_icmp .le 5, 3) := by decide +kernel
theorem d_U_canRefill_25 : decode b_U_canRefill 25 = .ok (.iconst 0, 1) := by decide +kernel
theorem d_U_canRefill_26 : decode b_U_canRefill 26 = .ok (.ireturn, 1) := by decide +kernel
theorem d_U_canRefill_27 : decode b_U_canRefill 27 = .ok (.iinc 3 1, 3) := by decide +kernel
theorem d_U_canRefill_30 : decode b_U_canRefill 30 = .ok (.goto (-28), 3) := by decide +kernel
theorem d_U_canRefill_33 : decode b_U_canRefill 33 = .ok (.iconst 1, 1) := by decide +kernel
theorem d_U_canRefill_34 : decode b_U_canRefill 34 = .ok (.ireturn, 1) := by decide +kernel
theorem d_U_refill_0 : decode b_U_refill 0 = .ok (.iconst 0, 1) := by decide +kernel
theorem d_U_refill_1 : decode b_U_refill 1 = .ok (.istore_n 3, 1) := by decide +kernel
theorem d_U_refill_2 : decode b_U_refill 2 = .ok (.iload_n 3, 1) := by decide +kernel
theorem d_U_refill_3 : decode b_U_refill 3 = .ok (.bipush 6, 2) := by decide +kernel
theorem d_U_refill_5 : decode b_U_refill 5 = .ok (.if_icmp .ge 38, 3) := by decide +kernel
theorem d_U_refill_8 : decode b_U_refill 8 = .ok (.aload_n 2, 1) := by decide +kernel
theorem d_U_refill_9 : decode b_U_refill 9 = .ok (.iload_n 3, 1) := by decide +kernel
theorem d_U_refill_10 : decode b_U_refill 10 = .ok (.dup2, 1) := by decide +kernel
theorem d_U_refill_11 : decode b_U_refill 11 = .ok (.iaload, 1) := by decide +kernel
theorem d_U_refill_12 : decode b_U_refill 12 = .ok (.aload_n 0, 1) := by decide +kernel
theorem d_U_refill_13 : decode b_U_refill 13 = .ok (.getfield 39, 3) := by decide +kernel
theorem d_U_refill_16 : decode b_U_refill 16 = .ok (.iload_n 1, 1) := by decide +kernel
theorem d_U_refill_17 : decode b_U_refill 17 = .ok (.bipush 6, 2) := by decide +kernel
theorem d_U_refill_19 : decode b_U_refill 19 = .ok (.imul, 1) := by decide +kernel
theorem d_U_refill_20 : decode b_U_refill 20 = .ok (.iload_n 3, 1) := by decide +kernel
theorem d_U_refill_21 : decode b_U_refill 21 = .ok (.iadd, 1) := by decide +kernel
theorem d_U_refill_22 : decode b_U_refill 22 = .ok (.iaload, 1) := by decide +kernel
theorem d_U_refill_23 : decode b_U_refill 23 = .ok (.isub, 1) := by decide +kernel
theorem d_U_refill_24 : decode b_U_refill 24 = .ok (.iastore, 1) := by decide +kernel
theorem d_U_refill_25 : decode b_U_refill 25 = .ok (.aload_n 0, 1) := by decide +kernel
theorem d_U_refill_26 : decode b_U_refill 26 = .ok (.getfield 39, 3) := by decide +kernel
theorem d_U_refill_29 : decode b_U_refill 29 = .ok (.iload_n 1, 1) := by decide +kernel
theorem d_U_refill_30 : decode b_U_refill 30 = .ok (.bipush 6, 2) := by decide +kernel
theorem d_U_refill_32 : decode b_U_refill 32 = .ok (.imul, 1) := by decide +kernel
theorem d_U_refill_33 : decode b_U_refill 33 = .ok (.iload_n 3, 1) := by decide +kernel
theorem d_U_refill_34 : decode b_U_refill 34 = .ok (.iadd, 1) := by decide +kernel
theorem d_U_refill_35 : decode b_U_refill 35 = .ok (.iconst 0, 1) := by decide +kernel
theorem d_U_refill_36 : decode b_U_refill 36 = .ok (.iastore, 1) := by decide +kernel
theorem d_U_refill_37 : decode b_U_refill 37 = .ok (.iinc 3 1, 3) := by decide +kernel
theorem d_U_refill_40 : decode b_U_refill 40 = .ok (.goto (-38), 3) := by decide +kernel
theorem d_U_refill_43 : decode b_U_refill 43 = .ok (.return_, 1) := by decide +kernel
theorem d_W_init_0 : decode b_W_init 0 = .ok (.aload_n 0, 1) := by decide +kernel
theorem d_W_init_1 : decode b_W_init 1 = .ok (.invokespecial 3, 3) := by decide +kernel
theorem d_W_init_4 : decode b_W_init 4 = .ok (.aload_n 0, 1) := by decide +kernel
theorem d_W_init_5 : decode b_W_init 5 = .ok (.bipush 30, 2) := by decide +kernel
theorem d_W_init_7 : decode b_W_init 7 = .ok (.newarray .int, 2) := by decide +kernel
theorem d_W_init_9 : decode b_W_init 9 = .ok (.putfield 9, 3) := by decide +kernel
theorem d_W_init_12 : decode b_W_init 12 = .ok (.aload_n 0, 1) := by decide +kernel
theorem d_W_init_13 : decode b_W_init 13 = .ok (.iconst 0, 1) := by decide +kernel
theorem d_W_init_14 : decode b_W_init 14 = .ok (.putfield 15, 3) := by decide +kernel
theorem d_W_init_17 : decode b_W_init 17 = .ok (.return_, 1) := by decide +kernel
theorem d_W_addLast_0 : decode b_W_addLast 0 = .ok (.aload_n 0, 1) := by decide +kernel
theorem d_W_addLast_1 : decode b_W_addLast 1 = .ok (.getfield 9, 3) := by decide +kernel
theorem d_W_addLast_4 : decode b_W_addLast 4 = .ok (.aload_n 0, 1) := by decide +kernel
theorem d_W_addLast_5 : decode b_W_addLast 5 = .ok (.getfield 15, 3) := by decide +kernel
theorem d_W_addLast_8 : decode b_W_addLast 8 = .ok (.iload_n 1, 1) := by decide +kernel
theorem d_W_addLast_9 : decode b_W_addLast 9 = .ok (.iastore, 1) := by decide +kernel
theorem d_W_addLast_10 : decode b_W_addLast 10 = .ok (.aload_n 0, 1) := by decide +kernel
theorem d_W_addLast_11 : decode b_W_addLast 11 = .ok (.dup, 1) := by decide +kernel
theorem d_W_addLast_12 : decode b_W_addLast 12 = .ok (.getfield 15, 3) := by decide +kernel
theorem d_W_addLast_15 : decode b_W_addLast 15 = .ok (.iconst 1, 1) := by decide +kernel
theorem d_W_addLast_16 : decode b_W_addLast 16 = .ok (.iadd, 1) := by decide +kernel
theorem d_W_addLast_17 : decode b_W_addLast 17 = .ok (.putfield 15, 3) := by decide +kernel
theorem d_W_addLast_20 : decode b_W_addLast 20 = .ok (.return_, 1) := by decide +kernel
theorem d_W_takeFirst_0 : decode b_W_takeFirst 0 = .ok (.aload_n 0, 1) := by decide +kernel
theorem d_W_takeFirst_1 : decode b_W_takeFirst 1 = .ok (.getfield 9, 3) := by decide +kernel
theorem d_W_takeFirst_4 : decode b_W_takeFirst 4 = .ok (.iconst 0, 1) := by decide +kernel
theorem d_W_takeFirst_5 : decode b_W_takeFirst 5 = .ok (.iaload, 1) := by decide +kernel
theorem d_W_takeFirst_6 : decode b_W_takeFirst 6 = .ok (.istore_n 1, 1) := by decide +kernel
theorem d_W_takeFirst_7 : decode b_W_takeFirst 7 = .ok (.aload_n 0, 1) := by decide +kernel
theorem d_W_takeFirst_8 : decode b_W_takeFirst 8 = .ok (.dup, 1) := by decide +kernel
theorem d_W_takeFirst_9 : decode b_W_takeFirst 9 = .ok (.getfield 15, 3) := by decide +kernel
theorem d_W_takeFirst_12 : decode b_W_takeFirst 12 = .ok (.iconst 1, 1) := by decide +kernel
theorem d_W_takeFirst_13 : decode b_W_takeFirst 13 = .ok (.isub, 1) := by decide +kernel
theorem d_W_takeFirst_14 : decode b_W_takeFirst 14 = .ok (.putfield 15, 3) := by decide +kernel
theorem d_W_takeFirst_17 : decode b_W_takeFirst 17 = .ok (.aload_n 0, 1) := by decide +kernel
theorem d_W_takeFirst_18 : decode b_W_takeFirst 18 = .ok (.getfield 9, 3) := by decide +kernel
theorem d_W_takeFirst_21 : decode b_W_takeFirst 21 = .ok (.iconst 1, 1) := by decide +kernel
theorem d_W_takeFirst_22 : decode b_W_takeFirst 22 = .ok (.aload_n 0, 1) := by decide +kernel
theorem d_W_takeFirst_23 : decode b_W_takeFirst 23 = .ok (.getfield 9, 3) := by decide +kernel
theorem d_W_takeFirst_26 : decode b_W_takeFirst 26 = .ok (.iconst 0, 1) := by decide +kernel
theorem d_W_takeFirst_27 : decode b_W_takeFirst 27 = .ok (.aload_n 0, 1) := by decide +kernel
theorem d_W_takeFirst_28 : decode b_W_takeFirst 28 = .ok (.getfield 15, 3) := by decide +kernel
theorem d_W_takeFirst_31 : decode b_W_takeFirst 31 = .ok (.invokestatic 19, 3) := by decide +kernel
theorem d_W_takeFirst_34 : decode b_W_takeFirst 34 = .ok (.iload_n 1, 1) := by decide +kernel
theorem d_W_takeFirst_35 : decode b_W_takeFirst 35 = .ok (.ireturn, 1) := by decide +kernel
theorem d_W_countFor_0 : decode b_W_countFor 0 = .ok (.iconst 0, 1) := by decide +kernel
theorem d_W_countFor_1 : decode b_W_countFor 1 = .ok (.istore_n 2, 1) := by decide +kernel
theorem d_W_countFor_2 : decode b_W_countFor 2 = .ok (.iconst 0, 1) := by decide +kernel
theorem d_W_countFor_3 : decode b_W_countFor 3 = .ok (.istore_n 3, 1) := by decide +kernel
theorem d_W_countFor_4 : decode b_W_countFor 4 = .ok (.iload_n 3, 1) := by decide +kernel
theorem d_W_countFor_5 : decode b_W_countFor 5 = .ok (.aload_n 0, 1) := by decide +kernel
theorem d_W_countFor_6 : decode b_W_countFor 6 = .ok (.getfield 15, 3) := by decide +kernel
theorem d_W_countFor_9 : decode b_W_countFor 9 = .ok (.if_icmp .ge 22, 3) := by decide +kernel
theorem d_W_countFor_12 : decode b_W_countFor 12 = .ok (.aload_n 0, 1) := by decide +kernel
theorem d_W_countFor_13 : decode b_W_countFor 13 = .ok (.getfield 9, 3) := by decide +kernel
theorem d_W_countFor_16 : decode b_W_countFor 16 = .ok (.iload_n 3, 1) := by decide +kernel
theorem d_W_countFor_17 : decode b_W_countFor 17 = .ok (.iaload, 1) := by decide +kernel
theorem d_W_countFor_18 : decode b_W_countFor 18 = .ok (.iload_n 1, 1) := by decide +kernel
theorem d_W_countFor_19 : decode b_W_countFor 19 = .ok (.if_icmp .ne 6, 3) := by decide +kernel
theorem d_W_countFor_22 : decode b_W_countFor 22 = .ok (.iinc 2 1, 3) := by decide +kernel
theorem d_W_countFor_25 : decode b_W_countFor 25 = .ok (.iinc 3 1, 3) := by decide +kernel
theorem d_W_countFor_28 : decode b_W_countFor 28 = .ok (.goto (-24), 3) := by decide +kernel
theorem d_W_countFor_31 : decode b_W_countFor 31 = .ok (.iload_n 2, 1) := by decide +kernel
theorem d_W_countFor_32 : decode b_W_countFor 32 = .ok (.ireturn, 1) := by decide +kernel
end
section
theorem d_R_init_0 : decode b_R_init 0 = .ok (.aload_n 0, 1) := by decide +kernel
theorem d_R_init_1 : decode b_R_init 1 = .ok (.invokespecial 1, 3) := by decide +kernel
theorem d_R_init_4 : decode b_R_init 4 = .ok (.aload_n 0, 1) := by decide +kernel
theorem d_R_init_5 : decode b_R_init 5 = .ok (.new 7, 3) := by decide +kernel
theorem d_R_init_8 : decode b_R_init 8 = .ok (.dup, 1) := by decide +kernel
theorem d_R_init_9 : decode b_R_init 9 = .ok (.invokespecial 9, 3) := by decide +kernel
theorem d_R_init_12 : decode b_R_init 12 = .ok (.putfield 10, 3) := by decide +kernel
theorem d_R_init_15 : decode b_R_init 15 = .ok (.aload_n 0, 1) := by decide +kernel
theorem d_R_init_16 : decode b_R_init 16 = .ok (.new 16, 3) := by decide +kernel
theorem d_R_init_19 : decode b_R_init 19 = .ok (.dup, 1) := by decide +kernel
theorem d_R_init_20 : decode b_R_init 20 = .ok (.invokespecial 18, 3) := by decide +kernel
theorem d_R_init_23 : decode b_R_init 23 = .ok (.putfield 19, 3) := by decide +kernel
theorem d_R_init_26 : decode b_R_init 26 = .ok (.aload_n 0, 1) := by decide +kernel
theorem d_R_init_27 : decode b_R_init 27 = .ok (.new 23, 3) := by decide +kernel
theorem d_R_init_30 : decode b_R_init 30 = .ok (.dup, 1) := by decide +kernel
theorem d_R_init_31 : decode b_R_init 31 = .ok (.invokespecial 25, 3) := by decide +kernel
theorem d_R_init_34 : decode b_R_init 34 = .ok (.putfield 26, 3) := by decide +kernel
theorem d_R_init_37 : decode b_R_init 37 = .ok (.aload_n 0, 1) := by decide +kernel
theorem d_R_init_38 : decode b_R_init 38 = .ok (.bipush 6, 2) := by decide +kernel
theorem d_R_init_40 : decode b_R_init 40 = .ok (.newarray .int, 2) := by decide +kernel
theorem d_R_init_42 : decode b_R_init 42 = .ok (.putfield 30, 3) := by decide +kernel
theorem d_R_init_45 : decode b_R_init 45 = .ok (.aload_n 0, 1) := by decide +kernel
theorem d_R_init_46 : decode b_R_init 46 = .ok (.iconst 0, 1) := by decide +kernel
theorem d_R_init_47 : decode b_R_init 47 = .ok (.putfield 34, 3) := by decide +kernel
theorem d_R_init_50 : decode b_R_init 50 = .ok (.aload_n 0, 1) := by decide +kernel
theorem d_R_init_51 : decode b_R_init 51 = .ok (.sipush 600, 3) := by decide +kernel
theorem d_R_init_54 : decode b_R_init 54 = .ok (.putfield 38, 3) := by decide +kernel
theorem d_R_init_57 : decode b_R_init 57 = .ok (.return_, 1) := by decide +kernel
theorem d_R_unit_0 : decode b_R_unit 0 = .ok (.iload_n 1, 1) := by decide +kernel
theorem d_R_unit_1 : decode b_R_unit 1 = .ok (.iconst 0, 1) := by decide +kernel
theorem d_R_unit_2 : decode b_R_unit 2 = .ok (.ldc 41, 2) := by decide +kernel
theorem d_R_unit_4 : decode b_R_unit 4 = .ok (.invokestatic 42, 3) := by decide +kernel
theorem d_R_unit_7 : decode b_R_unit 7 = .ok (.iload_n 2, 1) := by decide +kernel
theorem d_R_unit_8 : decode b_R_unit 8 = .ok (.iconst 0, 1) := by decide +kernel
theorem d_R_unit_9 : decode b_R_unit 9 = .ok (.sipush 10000, 3) := by decide +kernel
theorem d_R_unit_12 : decode b_R_unit 12 = .ok (.invokestatic 42, 3) := by decide +kernel
theorem d_R_unit_15 : decode b_R_unit 15 = .ok (.iload_n 3, 1) := by decide +kernel
theorem d_R_unit_16 : decode b_R_unit 16 = .ok (.iconst 0, 1) := by decide +kernel
theorem d_R_unit_17 : decode b_R_unit 17 = .ok (.sipush 10000, 3) := by decide +kernel
theorem d_R_unit_20 : decode b_R_unit 20 = .ok (.invokestatic 42, 3) := by decide +kernel
theorem d_R_unit_23 : decode b_R_unit 23 = .ok (.iload 4, 2) := by decide +kernel
theorem d_R_unit_25 : decode b_R_unit 25 = .ok (.iconst 0, 1) := by decide +kernel
theorem d_R_unit_26 : decode b_R_unit 26 = .ok (.sipush 255, 3) := by decide +kernel
theorem d_R_unit_29 : decode b_R_unit 29 = .ok (.invokestatic 42, 3) := by decide +kernel
theorem d_R_unit_32 : decode b_R_unit 32 = .ok (.aload_n 0, 1) := by decide +kernel
theorem d_R_unit_33 : decode b_R_unit 33 = .ok (.getfield 10, 3) := by decide +kernel
theorem d_R_unit_36 : decode b_R_unit 36 = .ok (.getfield 46, 3) := by decide +kernel
theorem d_R_unit_39 : decode b_R_unit 39 = .ok (.bipush 24, 2) := by decide +kernel
theorem d_R_unit_41 : decode b_R_unit 41 = .ok (.if_icmp .ge 7, 3) := by decide +kernel
theorem d_R_unit_44 : decode b_R_unit 44 = .ok (.iconst 1, 1) := by decide +kernel
theorem d_R_unit_45 : decode b_R_unit 45 = .ok (.goto 4, 3) := by decide +kernel
theorem d_R_unit_48 : decode b_R_unit 48 = .ok (.iconst 0, 1) := by decide +kernel
theorem d_R_unit_49 : decode b_R_unit 49 = .ok (.invokestatic 49, 3) := by decide +kernel
theorem d_R_unit_52 : decode b_R_unit 52 = .ok (.aload_n 0, 1) := by decide +kernel
theorem d_R_unit_53 : decode b_R_unit 53 = .ok (.getfield 10, 3) := by decide +kernel
theorem d_R_unit_56 : decode b_R_unit 56 = .ok (.iload_n 1, 1) := by decide +kernel
theorem d_R_unit_57 : decode b_R_unit 57 = .ok (.aload_n 0, 1) := by decide +kernel
theorem d_R_unit_58 : decode b_R_unit 58 = .ok (.getfield 34, 3) := by decide +kernel
theorem d_R_unit_61 : decode b_R_unit 61 = .ok (.invokevirtual 53, 3) := by decide +kernel
theorem d_R_unit_64 : decode b_R_unit 64 = .ok (.istore 5, 2) := by decide +kernel
theorem d_R_unit_66 : decode b_R_unit 66 = .ok (.aload_n 0, 1) := by decide +kernel
theorem d_R_unit_67 : decode b_R_unit 67 = .ok (.getfield 10, 3) := by decide +kernel
theorem d_R_unit_70 : decode b_R_unit 70 = .ok (.iload 5, 2) := by decide +kernel
theorem d_R_unit_72 : decode b_R_unit 72 = .ok (.iload_n 2, 1) := by decide +kernel
theorem d_R_unit_73 : decode b_R_unit 73 = .ok (.iload_n 3, 1) := by decide +kernel
theorem d_R_unit_74 : decode b_R_unit 74 = .ok (.iload 4, 2) := by decide +kernel
theorem d_R_unit_76 : decode b_R_unit 76 = .ok (.invokevirtual 57, 3) := by decide +kernel
theorem d_R_unit_79 : decode b_R_unit 79 = .ok (.aload_n 0, 1) := by decide +kernel
theorem d_R_unit_80 : decode b_R_unit 80 = .ok (.invokevirtual 61, 3) := by decide +kernel
theorem d_R_unit_83 : decode b_R_unit 83 = .ok (.pop, 1) := by decide +kernel
theorem d_R_unit_84 : decode b_R_unit 84 = .ok (.iload 5, 2) := by decide +kernel
theorem d_R_unit_86 : decode b_R_unit 86 = .ok (.ireturn, 1) := by decide +kernel
theorem d_R_home_0 : decode b_R_home 0 = .ok (.aload_n 0, 1) := by decide +kernel
theorem d_R_home_1 : decode b_R_home 1 = .ok (.getfield 10, 3) := by decide +kernel
theorem d_R_home_4 : decode b_R_home 4 = .ok (.iload_n 1, 1) := by decide +kernel
theorem d_R_home_5 : decode b_R_home 5 = .ok (.invokevirtual 65, 3) := by decide +kernel
theorem d_R_home_8 : decode b_R_home 8 = .ok (.invokestatic 69, 3) := by decide +kernel
theorem d_R_home_11 : decode b_R_home 11 = .ok (.iload_n 2, 1) := by decide +kernel
theorem d_R_home_12 : decode b_R_home 12 = .ok (.iconst 0, 1) := by decide +kernel
theorem d_R_home_13 : decode b_R_home 13 = .ok (.ldc 41, 2) := by decide +kernel
theorem d_R_home_15 : decode b_R_home 15 = .ok (.invokestatic 42, 3) := by decide +kernel
theorem d_R_home_18 : decode b_R_home 18 = .ok (.aload_n 0, 1) := by decide +kernel
theorem d_R_home_19 : decode b_R_home 19 = .ok (.getfield 10, 3) := by decide +kernel
theorem d_R_home_22 : decode b_R_home 22 = .ok (.getfield 72, 3) := by decide +kernel
theorem d_R_home_25 : decode b_R_home 25 = .ok (.iload_n 1, 1) := by decide +kernel
theorem d_R_home_26 : decode b_R_home 26 = .ok (.iload_n 2, 1) := by decide +kernel
theorem d_R_home_27 : decode b_R_home 27 = .ok (.iastore, 1) := by decide +kernel
theorem d_R_home_28 : decode b_R_home 28 = .ok (.return_, 1) := by decide +kernel
theorem d_R_span_0 : decode b_R_span 0 = .ok (.iload_n 1, 1) := by decide +kernel
theorem d_R_span_1 : decode b_R_span 1 = .ok (.iconst 0, 1) := by decide +kernel
theorem d_R_span_2 : decode b_R_span 2 = .ok (.ldc 75, 2) := by decide +kernel
theorem d_R_span_4 : decode b_R_span 4 = .ok (.invokestatic 42, 3) := by decide +kernel
theorem d_R_span_7 : decode b_R_span 7 = .ok (.aload_n 0, 1) := by decide +kernel
theorem d_R_span_8 : decode b_R_span 8 = .ok (.iload_n 1, 1) := by decide +kernel
theorem d_R_span_9 : decode b_R_span 9 = .ok (.putfield 38, 3) := by decide +kernel
theorem d_R_span_12 : decode b_R_span 12 = .ok (.return_, 1) := by decide +kernel
theorem d_R_call_0 : decode b_R_call 0 = .ok (.iload_n 1, 1) := by decide +kernel
theorem d_R_call_1 : decode b_R_call 1 = .ok (.iconst 0, 1) := by decide +kernel
theorem d_R_call_2 : decode b_R_call 2 = .ok (.bipush 99, 2) := by decide +kernel
theorem d_R_call_4 : decode b_R_call 4 = .ok (.invokestatic 42, 3) := by decide +kernel
theorem d_R_call_7 : decode b_R_call 7 = .ok (.iload_n 2, 1) := by decide +kernel
theorem d_R_call_8 : decode b_R_call 8 = .ok (.ifCond .eq 15, 3) := by decide +kernel
theorem d_R_call_11 : decode b_R_call 11 = .ok (.aload_n 0, 1) := by decide +kernel
theorem d_R_call_12 : decode b_R_call 12 = .ok (.getfield 26, 3) := by decide +kernel
theorem d_R_call_15 : decode b_R_call 15 = .ok (.getfield 76, 3) := by decide +kernel
theorem d_R_call_18 : decode b_R_call 18 = .ok (.bipush 30, 2) := by decide +kernel
theorem d_R_call_20 : decode b_R_call 20 = .ok (.if_icmp .ge 7, 3) := by decide +kernel
theorem d_R_call_23 : decode b_R_call 23 = .ok (.iconst 1, 1) := by decide +kernel
theorem d_R_call_24 : decode b_R_call 24 = .ok (.goto 4, 3) := by decide +kernel
theorem d_R_call_27 : decode b_R_call 27 = .ok (.iconst 0, 1) := by decide +kernel
theorem d_R_call_28 : decode b_R_call 28 = .ok (.invokestatic 49, 3) := by decide +kernel
theorem d_R_call_31 : decode b_R_call 31 = .ok (.aload_n 0, 1) := by decide +kernel
theorem d_R_call_32 : decode b_R_call 32 = .ok (.getfield 19, 3) := by decide +kernel
theorem d_R_call_35 : decode b_R_call 35 = .ok (.iload_n 1, 1) := by decide +kernel
theorem d_R_call_36 : decode b_R_call 36 = .ok (.invokevirtual 77, 3) := by decide +kernel
theorem d_R_call_39 : decode b_R_call 39 = .ok (.istore_n 3, 1) := by decide +kernel
theorem d_R_call_40 : decode b_R_call 40 = .ok (.iload_n 3, 1) := by decide +kernel
theorem d_R_call_41 : decode b_R_call 41 = .ok (.iconst (-1), 1) := by decide +kernel
theorem d_R_call_42 : decode b_R_call 42 = .ok (.if_icmp .eq 11, 3) := by decide +kernel
theorem d_R_call_45 : decode b_R_call 45 = .ok (.aload_n 0, 1) := by decide +kernel
theorem d_R_call_46 : decode b_R_call 46 = .ok (.iload_n 3, 1) := by decide +kernel
theorem d_R_call_47 : decode b_R_call 47 = .ok (.invokevirtual 81, 3) := by decide +kernel
theorem d_R_call_50 : decode b_R_call 50 = .ok (.ifCond .eq 32, 3) := by decide +kernel
theorem d_R_call_53 : decode b_R_call 53 = .ok (.aload_n 0, 1) := by decide +kernel
theorem d_R_call_54 : decode b_R_call 54 = .ok (.getfield 19, 3) := by decide +kernel
theorem d_R_call_57 : decode b_R_call 57 = .ok (.getfield 84, 3) := by decide +kernel
theorem d_R_call_60 : decode b_R_call 60 = .ok (.bipush 20, 2) := by decide +kernel
theorem d_R_call_62 : decode b_R_call 62 = .ok (.if_icmp .ge 7, 3) := by decide +kernel
theorem d_R_call_65 : decode b_R_call 65 = .ok (.iconst 1, 1) := by decide +kernel
theorem d_R_call_66 : decode b_R_call 66 = .ok (.goto 4, 3) := by decide +kernel
theorem d_R_call_69 : decode b_R_call 69 = .ok (.iconst 0, 1) := by decide +kernel
theorem d_R_call_70 : decode b_R_call 70 = .ok (.invokestatic 49, 3) := by decide +kernel
theorem d_R_call_73 : decode b_R_call 73 = .ok (.aload_n 0, 1) := by decide +kernel
theorem d_R_call_74 : decode b_R_call 74 = .ok (.getfield 19, 3) := by decide +kernel
theorem d_R_call_77 : decode b_R_call 77 = .ok (.iload_n 1, 1) := by decide +kernel
theorem d_R_call_78 : decode b_R_call 78 = .ok (.invokevirtual 85, 3) := by decide +kernel
theorem d_R_call_81 : decode b_R_call 81 = .ok (.istore_n 3, 1) := by decide +kernel
theorem d_R_call_82 : decode b_R_call 82 = .ok (.aload_n 0, 1) := by decide +kernel
theorem d_R_call_83 : decode b_R_call 83 = .ok (.getfield 19, 3) := by decide +kernel
theorem d_R_call_86 : decode b_R_call 86 = .ok (.getfield 88, 3) := by decide +kernel
theorem d_R_call_89 : decode b_R_call 89 = .ok (.iload_n 3, 1) := by decide +kernel
theorem d_R_call_90 : decode b_R_call 90 = .ok (.baload, 1) := by decide +kernel
theorem d_R_call_91 : decode b_R_call 91 = .ok (.ifCond .ne 11, 3) := by decide +kernel
theorem d_R_call_94 : decode b_R_call 94 = .ok (.aload_n 0, 1) := by decide +kernel
theorem d_R_call_95 : decode b_R_call 95 = .ok (.getfield 19, 3) := by decide +kernel
theorem d_R_call_98 : decode b_R_call 98 = .ok (.iload_n 3, 1) := by decide +kernel
theorem d_R_call_99 : decode b_R_call 99 = .ok (.invokevirtual 92, 3) := by decide +kernel
theorem d_R_call_102 : decode b_R_call 102 = .ok (.iload_n 2, 1) := by decide +kernel
theorem d_R_call_103 : decode b_R_call 103 = .ok (.ifCond .eq 11, 3) := by decide +kernel
theorem d_R_call_106 : decode b_R_call 106 = .ok (.aload_n 0, 1) := by decide +kernel
theorem d_R_call_107 : decode b_R_call 107 = .ok (.getfield 26, 3) := by decide +kernel
theorem d_R_call_110 : decode b_R_call 110 = .ok (.iload_n 3, 1) := by decide +kernel
theorem d_R_call_111 : decode b_R_call 111 = .ok (.invokevirtual 96, 3) := by decide +kernel
theorem d_R_call_114 : decode b_R_call 114 = .ok (.aload_n 0, 1) := by decide +kernel
theorem d_R_call_115 : decode b_R_call 115 = .ok (.invokevirtual 61, 3) := by decide +kernel
theorem d_R_call_118 : decode b_R_call 118 = .ok (.pop, 1) := by decide +kernel
theorem d_R_call_119 : decode b_R_call 119 = .ok (.iload_n 3, 1) := by decide +kernel
theorem d_R_call_120 : decode b_R_call 120 = .ok (.ireturn, 1) := by decide +kernel
theorem d_R_send_0 : decode b_R_send 0 = .ok (.aload_n 0, 1) := by decide +kernel
theorem d_R_send_1 : decode b_R_send 1 = .ok (.getfield 10, 3) := by decide +kernel
theorem d_R_send_4 : decode b_R_send 4 = .ok (.iload_n 1, 1) := by decide +kernel
theorem d_R_send_5 : decode b_R_send 5 = .ok (.invokevirtual 65, 3) := by decide +kernel
theorem d_R_send_8 : decode b_R_send 8 = .ok (.ifCond .eq 18, 3) := by decide +kernel
theorem d_R_send_11 : decode b_R_send 11 = .ok (.aload_n 0, 1) := by decide +kernel
theorem d_R_send_12 : decode b_R_send 12 = .ok (.getfield 19, 3) := by decide +kernel
theorem d_R_send_15 : decode b_R_send 15 = .ok (.iload_n 2, 1) := by decide +kernel
theorem d_R_send_16 : decode b_R_send 16 = .ok (.invokevirtual 99, 3) := by decide +kernel
theorem d_R_send_19 : decode b_R_send 19 = .ok (.ifCond .eq 7, 3) := by decide +kernel
theorem d_R_send_22 : decode b_R_send 22 = .ok (.iconst 1, 1) := by decide +kernel
theorem d_R_send_23 : decode b_R_send 23 = .ok (.goto 4, 3) := by decide +kernel
theorem d_R_send_26 : decode b_R_send 26 = .ok (.iconst 0, 1) := by decide +kernel
theorem d_R_send_27 : decode b_R_send 27 = .ok (.invokestatic 69, 3) := by decide +kernel
theorem d_R_send_30 : decode b_R_send 30 = .ok (.aload_n 0, 1) := by decide +kernel
theorem d_R_send_31 : decode b_R_send 31 = .ok (.getfield 10, 3) := by decide +kernel
theorem d_R_send_34 : decode b_R_send 34 = .ok (.getfield 100, 3) := by decide +kernel
theorem d_R_send_37 : decode b_R_send 37 = .ok (.iload_n 1, 1) := by decide +kernel
theorem d_R_send_38 : decode b_R_send 38 = .ok (.iaload, 1) := by decide +kernel
theorem d_R_send_39 : decode b_R_send 39 = .ok (.ifCond .ne 19, 3) := by decide +kernel
theorem d_R_send_42 : decode b_R_send 42 = .ok (.aload_n 0, 1) := by decide +kernel
theorem d_R_send_43 : decode b_R_send 43 = .ok (.getfield 19, 3) := by decide +kernel
theorem d_R_send_46 : decode b_R_send 46 = .ok (.getfield 88, 3) := by decide +kernel
theorem d_R_send_49 : decode b_R_send 49 = .ok (.iload_n 2, 1) := by decide +kernel
theorem d_R_send_50 : decode b_R_send 50 = .ok (.baload, 1) := by decide +kernel
theorem d_R_send_51 : decode b_R_send 51 = .ok (.ifCond .eq 7, 3) := by decide +kernel
theorem d_R_send_54 : decode b_R_send 54 = .ok (.iconst 1, 1) := by decide +kernel
theorem d_R_send_55 : decode b_R_send 55 = .ok (.goto 4, 3) := by decide +kernel
theorem d_R_send_58 : decode b_R_send 58 = .ok (.iconst 0, 1) := by decide +kernel
theorem d_R_send_59 : decode b_R_send 59 = .ok (.invokestatic 103, 3) := by decide +kernel
theorem d_R_send_62 : decode b_R_send 62 = .ok (.aload_n 0, 1) := by decide +kernel
theorem d_R_send_63 : decode b_R_send 63 = .ok (.iload_n 1, 1) := by decide +kernel
theorem d_R_send_64 : decode b_R_send 64 = .ok (.iload_n 2, 1) := by decide +kernel
theorem d_R_send_65 : decode b_R_send 65 = .ok (.invokevirtual 106, 3) := by decide +kernel
theorem d_R_send_68 : decode b_R_send 68 = .ok (.aload_n 0, 1) := by decide +kernel
theorem d_R_send_69 : decode b_R_send 69 = .ok (.invokevirtual 61, 3) := by decide +kernel
theorem d_R_send_72 : decode b_R_send 72 = .ok (.pop, 1) := by decide +kernel
theorem d_R_send_73 : decode b_R_send 73 = .ok (.return_, 1) := by decide +kernel
theorem d_R_release_0 : decode b_R_release 0 = .ok (.aload_n 0, 1) := by decide +kernel
theorem d_R_release_1 : decode b_R_release 1 = .ok (.getfield 19, 3) := by decide +kernel
theorem d_R_release_4 : decode b_R_release 4 = .ok (.iload_n 1, 1) := by decide +kernel
theorem d_R_release_5 : decode b_R_release 5 = .ok (.invokevirtual 99, 3) := by decide +kernel
theorem d_R_release_8 : decode b_R_release 8 = .ok (.invokestatic 69, 3) := by decide +kernel
theorem d_R_release_11 : decode b_R_release 11 = .ok (.iload_n 2, 1) := by decide +kernel
theorem d_R_release_12 : decode b_R_release 12 = .ok (.iconst 1, 1) := by decide +kernel
theorem d_R_release_13 : decode b_R_release 13 = .ok (.bipush 24, 2) := by decide +kernel
theorem d_R_release_15 : decode b_R_release 15 = .ok (.invokestatic 42, 3) := by decide +kernel
theorem d_R_release_18 : decode b_R_release 18 = .ok (.aload_n 0, 1) := by decide +kernel
theorem d_R_release_19 : decode b_R_release 19 = .ok (.getfield 19, 3) := by decide +kernel
theorem d_R_release_22 : decode b_R_release 22 = .ok (.getfield 88, 3) := by decide +kernel
theorem d_R_release_25 : decode b_R_release 25 = .ok (.iload_n 1, 1) := by decide +kernel
theorem d_R_release_26 : decode b_R_release 26 = .ok (.baload, 1) := by decide +kernel
theorem d_R_release_27 : decode b_R_release 27 = .ok (.invokestatic 103, 3) := by decide +kernel
theorem d_R_release_30 : decode b_R_release 30 = .ok (.iconst 0, 1) := by decide +kernel
theorem d_R_release_31 : decode b_R_release 31 = .ok (.istore_n 3, 1) := by decide +kernel
theorem d_R_release_32 : decode b_R_release 32 = .ok (.iconst 0, 1) := by decide +kernel
theorem d_R_release_33 : decode b_R_release 33 = .ok (.istore 4, 2) := by decide +kernel
theorem d_R_release_35 : decode b_R_release 35 = .ok (.iload 4, 2) := by decide +kernel
theorem d_R_release_37 : decode b_R_release 37 = .ok (.iload_n 2, 1) := by decide +kernel
theorem d_R_release_38 : decode b_R_release 38 = .ok (.if_icmp .ge 45, 3) := by decide +kernel
theorem d_R_release_41 : decode b_R_release 41 = .ok (.aload_n 0, 1) := by decide +kernel
theorem d_R_release_42 : decode b_R_release 42 = .ok (.getfield 10, 3) := by decide +kernel
theorem d_R_release_45 : decode b_R_release 45 = .ok (.iload_n 1, 1) := by decide +kernel
theorem d_R_release_46 : decode b_R_release 46 = .ok (.invokevirtual 110, 3) := by decide +kernel
theorem d_R_release_49 : decode b_R_release 49 = .ok (.istore 5, 2) := by decide +kernel
theorem d_R_release_51 : decode b_R_release 51 = .ok (.iload 5, 2) := by decide +kernel
theorem d_R_release_53 : decode b_R_release 53 = .ok (.iconst (-1), 1) := by decide +kernel
theorem d_R_release_54 : decode b_R_release 54 = .ok (.if_icmp .ne 6, 3) := by decide +kernel
theorem d_R_release_57 : decode b_R_release 57 = .ok (.goto 26, 3) := by decide +kernel
theorem d_R_release_60 : decode b_R_release 60 = .ok (.aload_n 0, 1) := by decide +kernel
theorem d_R_release_61 : decode b_R_release 61 = .ok (.getfield 10, 3) := by decide +kernel
theorem d_R_release_64 : decode b_R_release 64 = .ok (.iload 5, 2) := by decide +kernel
theorem d_R_release_66 : decode b_R_release 66 = .ok (.iconst 2, 1) := by decide +kernel
theorem d_R_release_67 : decode b_R_release 67 = .ok (.aload_n 0, 1) := by decide +kernel
theorem d_R_release_68 : decode b_R_release 68 = .ok (.getfield 34, 3) := by decide +kernel
theorem d_R_release_71 : decode b_R_release 71 = .ok (.invokevirtual 113, 3) := by decide +kernel
theorem d_R_release_74 : decode b_R_release 74 = .ok (.iinc 3 1, 3) := by decide +kernel
theorem d_R_release_77 : decode b_R_release 77 = .ok (.iinc 4 1, 3) := by decide +kernel
theorem d_R_release_80 : decode b_R_release 80 = .ok (.goto (-45), 3) := by decide +kernel
theorem d_R_release_83 : decode b_R_release 83 = .ok (.aload_n 0, 1) := by decide +kernel
theorem d_R_release_84 : decode b_R_release 84 = .ok (.invokevirtual 61, 3) := by decide +kernel
theorem d_R_release_87 : decode b_R_release 87 = .ok (.pop, 1) := by decide +kernel
theorem d_R_release_88 : decode b_R_release 88 = .ok (.iload_n 3, 1) := by decide +kernel
theorem d_R_release_89 : decode b_R_release 89 = .ok (.ireturn, 1) := by decide +kernel
theorem d_R_back_0 : decode b_R_back 0 = .ok (.aload_n 0, 1) := by decide +kernel
theorem d_R_back_1 : decode b_R_back 1 = .ok (.getfield 10, 3) := by decide +kernel
theorem d_R_back_4 : decode b_R_back 4 = .ok (.iload_n 1, 1) := by decide +kernel
theorem d_R_back_5 : decode b_R_back 5 = .ok (.invokevirtual 65, 3) := by decide +kernel
theorem d_R_back_8 : decode b_R_back 8 = .ok (.invokestatic 69, 3) := by decide +kernel
theorem d_R_back_11 : decode b_R_back 11 = .ok (.aload_n 0, 1) := by decide +kernel
theorem d_R_back_12 : decode b_R_back 12 = .ok (.getfield 10, 3) := by decide +kernel
theorem d_R_back_15 : decode b_R_back 15 = .ok (.getfield 100, 3) := by decide +kernel
theorem d_R_back_18 : decode b_R_back 18 = .ok (.iload_n 1, 1) := by decide +kernel
theorem d_R_back_19 : decode b_R_back 19 = .ok (.iaload, 1) := by decide +kernel
theorem d_R_back_20 : decode b_R_back 20 = .ok (.iconst 2, 1) := by decide +kernel
theorem d_R_back_21 : decode b_R_back 21 = .ok (.if_icmp .ne 7, 3) := by decide +kernel
theorem d_R_back_24 : decode b_R_back 24 = .ok (.iconst 1, 1) := by decide +kernel
theorem d_R_back_25 : decode b_R_back 25 = .ok (.goto 4, 3) := by decide +kernel
theorem d_R_back_28 : decode b_R_back 28 = .ok (.iconst 0, 1) := by decide +kernel
theorem d_R_back_29 : decode b_R_back 29 = .ok (.invokestatic 103, 3) := by decide +kernel
theorem d_R_back_32 : decode b_R_back 32 = .ok (.aload_n 0, 1) := by decide +kernel
theorem d_R_back_33 : decode b_R_back 33 = .ok (.getfield 10, 3) := by decide +kernel
theorem d_R_back_36 : decode b_R_back 36 = .ok (.iload_n 1, 1) := by decide +kernel
theorem d_R_back_37 : decode b_R_back 37 = .ok (.iconst 3, 1) := by decide +kernel
theorem d_R_back_38 : decode b_R_back 38 = .ok (.aload_n 0, 1) := by decide +kernel
theorem d_R_back_39 : decode b_R_back 39 = .ok (.getfield 34, 3) := by decide +kernel
theorem d_R_back_42 : decode b_R_back 42 = .ok (.invokevirtual 113, 3) := by decide +kernel
theorem d_R_back_45 : decode b_R_back 45 = .ok (.aload_n 0, 1) := by decide +kernel
theorem d_R_back_46 : decode b_R_back 46 = .ok (.invokevirtual 61, 3) := by decide +kernel
theorem d_R_back_49 : decode b_R_back 49 = .ok (.pop, 1) := by decide +kernel
theorem d_R_back_50 : decode b_R_back 50 = .ok (.return_, 1) := by decide +kernel
theorem d_R_use_0 : decode b_R_use 0 = .ok (.aload_n 0, 1) := by decide +kernel
theorem d_R_use_1 : decode b_R_use 1 = .ok (.getfield 10, 3) := by decide +kernel
theorem d_R_use_4 : decode b_R_use 4 = .ok (.iload_n 1, 1) := by decide +kernel
theorem d_R_use_5 : decode b_R_use 5 = .ok (.invokevirtual 65, 3) := by decide +kernel
theorem d_R_use_8 : decode b_R_use 8 = .ok (.ifCond .eq 14, 3) := by decide +kernel
theorem d_R_use_11 : decode b_R_use 11 = .ok (.iload_n 2, 1) := by decide +kernel
theorem d_R_use_12 : decode b_R_use 12 = .ok (.invokestatic 116, 3) := by decide +kernel
theorem d_R_use_15 : decode b_R_use 15 = .ok (.ifCond .eq 7, 3) := by decide +kernel
theorem d_R_use_18 : decode b_R_use 18 = .ok (.iconst 1, 1) := by decide +kernel
theorem d_R_use_19 : decode b_R_use 19 = .ok (.goto 4, 3) := by decide +kernel
theorem d_R_use_22 : decode b_R_use 22 = .ok (.iconst 0, 1) := by decide +kernel
theorem d_R_use_23 : decode b_R_use 23 = .ok (.invokestatic 69, 3) := by decide +kernel
theorem d_R_use_26 : decode b_R_use 26 = .ok (.iload_n 3, 1) := by decide +kernel
theorem d_R_use_27 : decode b_R_use 27 = .ok (.iconst 1, 1) := by decide +kernel
theorem d_R_use_28 : decode b_R_use 28 = .ok (.sipush 1000, 3) := by decide +kernel
theorem d_R_use_31 : decode b_R_use 31 = .ok (.invokestatic 42, 3) := by decide +kernel
theorem d_R_use_34 : decode b_R_use 34 = .ok (.aload_n 0, 1) := by decide +kernel
theorem d_R_use_35 : decode b_R_use 35 = .ok (.getfield 10, 3) := by decide +kernel
theorem d_R_use_38 : decode b_R_use 38 = .ok (.getfield 100, 3) := by decide +kernel
theorem d_R_use_41 : decode b_R_use 41 = .ok (.iload_n 1, 1) := by decide +kernel
theorem d_R_use_42 : decode b_R_use 42 = .ok (.iaload, 1) := by decide +kernel
theorem d_R_use_43 : decode b_R_use 43 = .ok (.iconst 1, 1) := by decide +kernel
theorem d_R_use_44 : decode b_R_use 44 = .ok (.if_icmp .eq 16, 3) := by decide +kernel
theorem d_R_use_47 : decode b_R_use 47 = .ok (.aload_n 0, 1) := by decide +kernel
theorem d_R_use_48 : decode b_R_use 48 = .ok (.getfield 10, 3) := by decide +kernel
theorem d_R_use_51 : decode b_R_use 51 = .ok (.getfield 100, 3) := by decide +kernel
theorem d_R_use_54 : decode b_R_use 54 = .ok (.iload_n 1, 1) := by decide +kernel
theorem d_R_use_55 : decode b_R_use 55 = .ok (.iaload, 1) := by decide +kernel
theorem d_R_use_56 : decode b_R_use 56 = .ok (.iconst 2, 1) := by decide +kernel
theorem d_R_use_57 : decode b_R_use 57 = .ok (.if_icmp .ne 7, 3) := by decide +kernel
theorem d_R_use_60 : decode b_R_use 60 = .ok (.iconst 1, 1) := by decide +kernel
theorem d_R_use_61 : decode b_R_use 61 = .ok (.goto 4, 3) := by decide +kernel
theorem d_R_use_64 : decode b_R_use 64 = .ok (.iconst 0, 1) := by decide +kernel
theorem d_R_use_65 : decode b_R_use 65 = .ok (.invokestatic 103, 3) := by decide +kernel
theorem d_R_use_68 : decode b_R_use 68 = .ok (.aload_n 0, 1) := by decide +kernel
theorem d_R_use_69 : decode b_R_use 69 = .ok (.getfield 10, 3) := by decide +kernel
theorem d_R_use_72 : decode b_R_use 72 = .ok (.getfield 119, 3) := by decide +kernel
theorem d_R_use_75 : decode b_R_use 75 = .ok (.iload_n 1, 1) := by decide +kernel
theorem d_R_use_76 : decode b_R_use 76 = .ok (.bipush 6, 2) := by decide +kernel
theorem d_R_use_78 : decode b_R_use 78 = .ok (.imul, 1) := by decide +kernel
theorem d_R_use_79 : decode b_R_use 79 = .ok (.iload_n 2, 1) := by decide +kernel
theorem d_R_use_80 : decode b_R_use 80 = .ok (.iadd, 1) := by decide +kernel
theorem d_R_use_81 : decode b_R_use 81 = .ok (.iaload, 1) := by decide +kernel
theorem d_R_use_82 : decode b_R_use 82 = .ok (.iload_n 3, 1) := by decide +kernel
theorem d_R_use_83 : decode b_R_use 83 = .ok (.iadd, 1) := by decide +kernel
theorem d_R_use_84 : decode b_R_use 84 = .ok (.istore 4, 2) := by decide +kernel
theorem d_R_use_86 : decode b_R_use 86 = .ok (.iload 4, 2) := by decide +kernel
theorem d_R_use_88 : decode b_R_use 88 = .ok (.ldc 75, 2) := by decide +kernel
theorem d_R_use_90 : decode b_R_use 90 = .ok (.if_icmp .gt 7, 3) := by decide +kernel
theorem d_R_use_93 : decode b_R_use 93 = .ok (.iconst 1, 1) := by decide +kernel
theorem d_R_use_94 : decode b_R_use 94 = .ok (.goto 4, 3) := by decide +kernel
theorem d_R_use_97 : decode b_R_use 97 = .ok (.iconst 0, 1) := by decide +kernel
theorem d_R_use_98 : decode b_R_use 98 = .ok (.invokestatic 49, 3) := by decide +kernel
theorem d_R_use_101 : decode b_R_use 101 = .ok (.aload_n 0, 1) := by decide +kernel
theorem d_R_use_102 : decode b_R_use 102 = .ok (.getfield 10, 3) := by decide +kernel
theorem d_R_use_105 : decode b_R_use 105 = .ok (.getfield 119, 3) := by decide +kernel
theorem d_R_use_108 : decode b_R_use 108 = .ok (.iload_n 1, 1) := by decide +kernel
theorem d_R_use_109 : decode b_R_use 109 = .ok (.bipush 6, 2) := by decide +kernel
theorem d_R_use_111 : decode b_R_use 111 = .ok (.imul, 1) := by decide +kernel
theorem d_R_use_112 : decode b_R_use 112 = .ok (.iload_n 2, 1) := by decide +kernel
theorem d_R_use_113 : decode b_R_use 113 = .ok (.iadd, 1) := by decide +kernel
theorem d_R_use_114 : decode b_R_use 114 = .ok (.iload 4, 2) := by decide +kernel
theorem d_R_use_116 : decode b_R_use 116 = .ok (.iastore, 1) := by decide +kernel
theorem d_R_use_117 : decode b_R_use 117 = .ok (.iload 4, 2) := by decide +kernel
theorem d_R_use_119 : decode b_R_use 119 = .ok (.ireturn, 1) := by decide +kernel
theorem d_R_deliver_0 : decode b_R_deliver 0 = .ok (.iload_n 1, 1) := by decide +kernel
theorem d_R_deliver_1 : decode b_R_deliver 1 = .ok (.invokestatic 116, 3) := by decide +kernel
theorem d_R_deliver_4 : decode b_R_deliver 4 = .ok (.invokestatic 69, 3) := by decide +kernel
theorem d_R_deliver_7 : decode b_R_deliver 7 = .ok (.iload_n 2, 1) := by decide +kernel
theorem d_R_deliver_8 : decode b_R_deliver 8 = .ok (.iconst 0, 1) := by decide +kernel
theorem d_R_deliver_9 : decode b_R_deliver 9 = .ok (.ldc 75, 2) := by decide +kernel
theorem d_R_deliver_11 : decode b_R_deliver 11 = .ok (.invokestatic 42, 3) := by decide +kernel
theorem d_R_deliver_14 : decode b_R_deliver 14 = .ok (.aload_n 0, 1) := by decide +kernel
theorem d_R_deliver_15 : decode b_R_deliver 15 = .ok (.getfield 30, 3) := by decide +kernel
theorem d_R_deliver_18 : decode b_R_deliver 18 = .ok (.iload_n 1, 1) := by decide +kernel
theorem d_R_deliver_19 : decode b_R_deliver 19 = .ok (.iaload, 1) := by decide +kernel
theorem d_R_deliver_20 : decode b_R_deliver 20 = .ok (.iload_n 2, 1) := by decide +kernel
theorem d_R_deliver_21 : decode b_R_deliver 21 = .ok (.iadd, 1) := by decide +kernel
theorem d_R_deliver_22 : decode b_R_deliver 22 = .ok (.istore_n 3, 1) := by decide +kernel
theorem d_R_deliver_23 : decode b_R_deliver 23 = .ok (.iload_n 3, 1) := by decide +kernel
theorem d_R_deliver_24 : decode b_R_deliver 24 = .ok (.ldc 122, 2) := by decide +kernel
theorem d_R_deliver_26 : decode b_R_deliver 26 = .ok (.if_icmp .gt 7, 3) := by decide +kernel
theorem d_R_deliver_29 : decode b_R_deliver 29 = .ok (.iconst 1, 1) := by decide +kernel
theorem d_R_deliver_30 : decode b_R_deliver 30 = .ok (.goto 4, 3) := by decide +kernel
theorem d_R_deliver_33 : decode b_R_deliver 33 = .ok (.iconst 0, 1) := by decide +kernel
theorem d_R_deliver_34 : decode b_R_deliver 34 = .ok (.invokestatic 49, 3) := by decide +kernel
theorem d_R_deliver_37 : decode b_R_deliver 37 = .ok (.aload_n 0, 1) := by decide +kernel
theorem d_R_deliver_38 : decode b_R_deliver 38 = .ok (.getfield 30, 3) := by decide +kernel
theorem d_R_deliver_41 : decode b_R_deliver 41 = .ok (.iload_n 1, 1) := by decide +kernel
theorem d_R_deliver_42 : decode b_R_deliver 42 = .ok (.iload_n 3, 1) := by decide +kernel
theorem d_R_deliver_43 : decode b_R_deliver 43 = .ok (.iastore, 1) := by decide +kernel
theorem d_R_deliver_44 : decode b_R_deliver 44 = .ok (.aload_n 0, 1) := by decide +kernel
theorem d_R_deliver_45 : decode b_R_deliver 45 = .ok (.invokevirtual 61, 3) := by decide +kernel
theorem d_R_deliver_48 : decode b_R_deliver 48 = .ok (.pop, 1) := by decide +kernel
theorem d_R_deliver_49 : decode b_R_deliver 49 = .ok (.iload_n 3, 1) := by decide +kernel
theorem d_R_deliver_50 : decode b_R_deliver 50 = .ok (.ireturn, 1) := by decide +kernel
theorem d_R_check_0 : decode b_R_check 0 = .ok (.aload_n 0, 1) := by decide +kernel
theorem d_R_check_1 : decode b_R_check 1 = .ok (.getfield 10, 3) := by decide +kernel
theorem d_R_check_4 : decode b_R_check 4 = .ok (.iload_n 1, 1) := by decide +kernel
theorem d_R_check_5 : decode b_R_check 5 = .ok (.invokevirtual 65, 3) := by decide +kernel
theorem d_R_check_8 : decode b_R_check 8 = .ok (.invokestatic 69, 3) := by decide +kernel
theorem d_R_check_11 : decode b_R_check 11 = .ok (.iload_n 2, 1) := by decide +kernel
theorem d_R_check_12 : decode b_R_check 12 = .ok (.iconst 0, 1) := by decide +kernel
theorem d_R_check_13 : decode b_R_check 13 = .ok (.sipush 255, 3) := by decide +kernel
theorem d_R_check_16 : decode b_R_check 16 = .ok (.invokestatic 42, 3) := by decide +kernel
theorem d_R_check_19 : decode b_R_check 19 = .ok (.aload_n 0, 1) := by decide +kernel
theorem d_R_check_20 : decode b_R_check 20 = .ok (.getfield 10, 3) := by decide +kernel
theorem d_R_check_23 : decode b_R_check 23 = .ok (.getfield 100, 3) := by decide +kernel
theorem d_R_check_26 : decode b_R_check 26 = .ok (.iload_n 1, 1) := by decide +kernel
theorem d_R_check_27 : decode b_R_check 27 = .ok (.iaload, 1) := by decide +kernel
theorem d_R_check_28 : decode b_R_check 28 = .ok (.iconst 5, 1) := by decide +kernel
theorem d_R_check_29 : decode b_R_check 29 = .ok (.if_icmp .ne 7, 3) := by decide +kernel
theorem d_R_check_32 : decode b_R_check 32 = .ok (.iconst 1, 1) := by decide +kernel
theorem d_R_check_33 : decode b_R_check 33 = .ok (.goto 4, 3) := by decide +kernel
theorem d_R_check_36 : decode b_R_check 36 = .ok (.iconst 0, 1) := by decide +kernel
theorem d_R_check_37 : decode b_R_check 37 = .ok (.invokestatic 103, 3) := by decide +kernel
theorem d_R_check_40 : decode b_R_check 40 = .ok (.aload_n 0, 1) := by decide +kernel
theorem d_R_check_41 : decode b_R_check 41 = .ok (.getfield 10, 3) := by decide +kernel
theorem d_R_check_44 : decode b_R_check 44 = .ok (.getfield 123, 3) := by decide +kernel
theorem d_R_check_47 : decode b_R_check 47 = .ok (.iload_n 1, 1) := by decide +kernel
theorem d_R_check_48 : decode b_R_check 48 = .ok (.dup2, 1) := by decide +kernel
theorem d_R_check_49 : decode b_R_check 49 = .ok (.iaload, 1) := by decide +kernel
theorem d_R_check_50 : decode b_R_check 50 = .ok (.iload_n 2, 1) := by decide +kernel
theorem d_R_check_51 : decode b_R_check 51 = .ok (.ior, 1) := by decide +kernel
theorem d_R_check_52 : decode b_R_check 52 = .ok (.iastore, 1) := by decide +kernel
theorem d_R_check_53 : decode b_R_check 53 = .ok (.aload_n 0, 1) := by decide +kernel
theorem d_R_check_54 : decode b_R_check 54 = .ok (.invokevirtual 61, 3) := by decide +kernel
theorem d_R_check_57 : decode b_R_check 57 = .ok (.pop, 1) := by decide +kernel
theorem d_R_check_58 : decode b_R_check 58 = .ok (.return_, 1) := by decide +kernel
theorem d_R_inside_0 : decode b_R_inside 0 = .ok (.aload_n 0, 1) := by decide +kernel
theorem d_R_inside_1 : decode b_R_inside 1 = .ok (.getfield 19, 3) := by decide +kernel
theorem d_R_inside_4 : decode b_R_inside 4 = .ok (.iload_n 1, 1) := by decide +kernel
theorem d_R_inside_5 : decode b_R_inside 5 = .ok (.invokevirtual 99, 3) := by decide +kernel
theorem d_R_inside_8 : decode b_R_inside 8 = .ok (.invokestatic 69, 3) := by decide +kernel
theorem d_R_inside_11 : decode b_R_inside 11 = .ok (.iload_n 2, 1) := by decide +kernel
theorem d_R_inside_12 : decode b_R_inside 12 = .ok (.iconst 0, 1) := by decide +kernel
theorem d_R_inside_13 : decode b_R_inside 13 = .ok (.sipush 1000, 3) := by decide +kernel
theorem d_R_inside_16 : decode b_R_inside 16 = .ok (.invokestatic 42, 3) := by decide +kernel
theorem d_R_inside_19 : decode b_R_inside 19 = .ok (.aload_n 0, 1) := by decide +kernel
theorem d_R_inside_20 : decode b_R_inside 20 = .ok (.getfield 19, 3) := by decide +kernel
theorem d_R_inside_23 : decode b_R_inside 23 = .ok (.getfield 88, 3) := by decide +kernel
theorem d_R_inside_26 : decode b_R_inside 26 = .ok (.iload_n 1, 1) := by decide +kernel
theorem d_R_inside_27 : decode b_R_inside 27 = .ok (.baload, 1) := by decide +kernel
theorem d_R_inside_28 : decode b_R_inside 28 = .ok (.invokestatic 103, 3) := by decide +kernel
theorem d_R_inside_31 : decode b_R_inside 31 = .ok (.aload_n 0, 1) := by decide +kernel
theorem d_R_inside_32 : decode b_R_inside 32 = .ok (.getfield 19, 3) := by decide +kernel
theorem d_R_inside_35 : decode b_R_inside 35 = .ok (.getfield 126, 3) := by decide +kernel
theorem d_R_inside_38 : decode b_R_inside 38 = .ok (.iload_n 1, 1) := by decide +kernel
theorem d_R_inside_39 : decode b_R_inside 39 = .ok (.iload_n 2, 1) := by decide +kernel
theorem d_R_inside_40 : decode b_R_inside 40 = .ok (.iastore, 1) := by decide +kernel
theorem d_R_inside_41 : decode b_R_inside 41 = .ok (.aload_n 0, 1) := by decide +kernel
theorem d_R_inside_42 : decode b_R_inside 42 = .ok (.invokevirtual 61, 3) := by decide +kernel
theorem d_R_inside_45 : decode b_R_inside 45 = .ok (.pop, 1) := by decide +kernel
theorem d_R_inside_46 : decode b_R_inside 46 = .ok (.return_, 1) := by decide +kernel
theorem d_R_report_0 : decode b_R_report 0 = .ok (.aload_n 0, 1) := by decide +kernel
theorem d_R_report_1 : decode b_R_report 1 = .ok (.getfield 19, 3) := by decide +kernel
theorem d_R_report_4 : decode b_R_report 4 = .ok (.iload_n 1, 1) := by decide +kernel
theorem d_R_report_5 : decode b_R_report 5 = .ok (.invokevirtual 99, 3) := by decide +kernel
theorem d_R_report_8 : decode b_R_report 8 = .ok (.ifCond .eq 17, 3) := by decide +kernel
theorem d_R_report_11 : decode b_R_report 11 = .ok (.iload_n 2, 1) := by decide +kernel
theorem d_R_report_12 : decode b_R_report 12 = .ok (.ifCond .lt 13, 3) := by decide +kernel
theorem d_R_report_15 : decode b_R_report 15 = .ok (.iload_n 2, 1) := by decide +kernel
theorem d_R_report_16 : decode b_R_report 16 = .ok (.bipush 7, 2) := by decide +kernel
theorem d_R_report_18 : decode b_R_report 18 = .ok (.if_icmp .gt 7, 3) := by decide +kernel
theorem d_R_report_21 : decode b_R_report 21 = .ok (.iconst 1, 1) := by decide +kernel
theorem d_R_report_22 : decode b_R_report 22 = .ok (.goto 4, 3) := by decide +kernel
theorem d_R_report_25 : decode b_R_report 25 = .ok (.iconst 0, 1) := by decide +kernel
theorem d_R_report_26 : decode b_R_report 26 = .ok (.invokestatic 69, 3) := by decide +kernel
theorem d_R_report_29 : decode b_R_report 29 = .ok (.aload_n 0, 1) := by decide +kernel
theorem d_R_report_30 : decode b_R_report 30 = .ok (.getfield 19, 3) := by decide +kernel
theorem d_R_report_33 : decode b_R_report 33 = .ok (.getfield 88, 3) := by decide +kernel
theorem d_R_report_36 : decode b_R_report 36 = .ok (.iload_n 1, 1) := by decide +kernel
theorem d_R_report_37 : decode b_R_report 37 = .ok (.baload, 1) := by decide +kernel
theorem d_R_report_38 : decode b_R_report 38 = .ok (.invokestatic 103, 3) := by decide +kernel
theorem d_R_report_41 : decode b_R_report 41 = .ok (.aload_n 0, 1) := by decide +kernel
theorem d_R_report_42 : decode b_R_report 42 = .ok (.getfield 19, 3) := by decide +kernel
theorem d_R_report_45 : decode b_R_report 45 = .ok (.getfield 129, 3) := by decide +kernel
theorem d_R_report_48 : decode b_R_report 48 = .ok (.iload_n 1, 1) := by decide +kernel
theorem d_R_report_49 : decode b_R_report 49 = .ok (.dup2, 1) := by decide +kernel
theorem d_R_report_50 : decode b_R_report 50 = .ok (.iaload, 1) := by decide +kernel
theorem d_R_report_51 : decode b_R_report 51 = .ok (.iconst 1, 1) := by decide +kernel
theorem d_R_report_52 : decode b_R_report 52 = .ok (.iload_n 2, 1) := by decide +kernel
theorem d_R_report_53 : decode b_R_report 53 = .ok (.ishl, 1) := by decide +kernel
theorem d_R_report_54 : decode b_R_report 54 = .ok (.ior, 1) := by decide +kernel
theorem d_R_report_55 : decode b_R_report 55 = .ok (.iastore, 1) := by decide +kernel
theorem d_R_report_56 : decode b_R_report 56 = .ok (.aload_n 0, 1) := by decide +kernel
theorem d_R_report_57 : decode b_R_report 57 = .ok (.invokevirtual 61, 3) := by decide +kernel
theorem d_R_report_60 : decode b_R_report 60 = .ok (.pop, 1) := by decide +kernel
theorem d_R_report_61 : decode b_R_report 61 = .ok (.return_, 1) := by decide +kernel
theorem d_R_watch_0 : decode b_R_watch 0 = .ok (.aload_n 0, 1) := by decide +kernel
theorem d_R_watch_1 : decode b_R_watch 1 = .ok (.getfield 19, 3) := by decide +kernel
theorem d_R_watch_4 : decode b_R_watch 4 = .ok (.iload_n 1, 1) := by decide +kernel
theorem d_R_watch_5 : decode b_R_watch 5 = .ok (.invokevirtual 99, 3) := by decide +kernel
theorem d_R_watch_8 : decode b_R_watch 8 = .ok (.invokestatic 69, 3) := by decide +kernel
theorem d_R_watch_11 : decode b_R_watch 11 = .ok (.iload_n 2, 1) := by decide +kernel
theorem d_R_watch_12 : decode b_R_watch 12 = .ok (.iconst (-1), 1) := by decide +kernel
theorem d_R_watch_13 : decode b_R_watch 13 = .ok (.ldc 132, 2) := by decide +kernel
theorem d_R_watch_15 : decode b_R_watch 15 = .ok (.invokestatic 42, 3) := by decide +kernel
theorem d_R_watch_18 : decode b_R_watch 18 = .ok (.aload_n 0, 1) := by decide +kernel
theorem d_R_watch_19 : decode b_R_watch 19 = .ok (.getfield 19, 3) := by decide +kernel
theorem d_R_watch_22 : decode b_R_watch 22 = .ok (.getfield 88, 3) := by decide +kernel
theorem d_R_watch_25 : decode b_R_watch 25 = .ok (.iload_n 1, 1) := by decide +kernel
theorem d_R_watch_26 : decode b_R_watch 26 = .ok (.baload, 1) := by decide +kernel
theorem d_R_watch_27 : decode b_R_watch 27 = .ok (.invokestatic 103, 3) := by decide +kernel
theorem d_R_watch_30 : decode b_R_watch 30 = .ok (.aload_n 0, 1) := by decide +kernel
theorem d_R_watch_31 : decode b_R_watch 31 = .ok (.getfield 19, 3) := by decide +kernel
theorem d_R_watch_34 : decode b_R_watch 34 = .ok (.getfield 133, 3) := by decide +kernel
theorem d_R_watch_37 : decode b_R_watch 37 = .ok (.iload_n 1, 1) := by decide +kernel
theorem d_R_watch_38 : decode b_R_watch 38 = .ok (.iload_n 2, 1) := by decide +kernel
theorem d_R_watch_39 : decode b_R_watch 39 = .ok (.iastore, 1) := by decide +kernel
theorem d_R_watch_40 : decode b_R_watch 40 = .ok (.aload_n 0, 1) := by decide +kernel
theorem d_R_watch_41 : decode b_R_watch 41 = .ok (.invokevirtual 61, 3) := by decide +kernel
theorem d_R_watch_44 : decode b_R_watch 44 = .ok (.pop, 1) := by decide +kernel
theorem d_R_watch_45 : decode b_R_watch 45 = .ok (.return_, 1) := by decide +kernel
theorem d_R_tick_0 : decode b_R_tick 0 = .ok (.iload_n 1, 1) := by decide +kernel
theorem d_R_tick_1 : decode b_R_tick 1 = .ok (.iconst 1, 1) := by decide +kernel
theorem d_R_tick_2 : decode b_R_tick 2 = .ok (.sipush 5000, 3) := by decide +kernel
theorem d_R_tick_5 : decode b_R_tick 5 = .ok (.invokestatic 42, 3) := by decide +kernel
theorem d_R_tick_8 : decode b_R_tick 8 = .ok (.iload_n 1, 1) := by decide +kernel
theorem d_R_tick_9 : decode b_R_tick 9 = .ok (.iconst 1, 1) := by decide +kernel
theorem d_R_tick_10 : decode b_R_tick 10 = .ok (.ldc 132, 2) := by decide +kernel
theorem d_R_tick_12 : decode b_R_tick 12 = .ok (.aload_n 0, 1) := by decide +kernel
theorem d_R_tick_13 : decode b_R_tick 13 = .ok (.getfield 34, 3) := by decide +kernel
theorem d_R_tick_16 : decode b_R_tick 16 = .ok (.isub, 1) := by decide +kernel
theorem d_R_tick_17 : decode b_R_tick 17 = .ok (.invokestatic 42, 3) := by decide +kernel
theorem d_R_tick_20 : decode b_R_tick 20 = .ok (.aload_n 0, 1) := by decide +kernel
theorem d_R_tick_21 : decode b_R_tick 21 = .ok (.getfield 34, 3) := by decide +kernel
theorem d_R_tick_24 : decode b_R_tick 24 = .ok (.iload_n 1, 1) := by decide +kernel
theorem d_R_tick_25 : decode b_R_tick 25 = .ok (.iadd, 1) := by decide +kernel
theorem d_R_tick_26 : decode b_R_tick 26 = .ok (.istore_n 2, 1) := by decide +kernel
theorem d_R_tick_27 : decode b_R_tick 27 = .ok (.iconst 0, 1) := by decide +kernel
theorem d_R_tick_28 : decode b_R_tick 28 = .ok (.istore_n 3, 1) := by decide +kernel
theorem d_R_tick_29 : decode b_R_tick 29 = .ok (.iconst 0, 1) := by decide +kernel
theorem d_R_tick_30 : decode b_R_tick 30 = .ok (.istore 4, 2) := by decide +kernel
theorem d_R_tick_32 : decode b_R_tick 32 = .ok (.iload 4, 2) := by decide +kernel
theorem d_R_tick_34 : decode b_R_tick 34 = .ok (.iload_n 1, 1) := by decide +kernel
theorem d_R_tick_35 : decode b_R_tick 35 = .ok (.if_icmp .ge 33, 3) := by decide +kernel
theorem d_R_tick_38 : decode b_R_tick 38 = .ok (.aload_n 0, 1) := by decide +kernel
theorem d_R_tick_39 : decode b_R_tick 39 = .ok (.getfield 34, 3) := by decide +kernel
theorem d_R_tick_42 : decode b_R_tick 42 = .ok (.iload_n 2, 1) := by decide +kernel
theorem d_R_tick_43 : decode b_R_tick 43 = .ok (.if_icmp .ge 25, 3) := by decide +kernel
theorem d_R_tick_46 : decode b_R_tick 46 = .ok (.aload_n 0, 1) := by decide +kernel
theorem d_R_tick_47 : decode b_R_tick 47 = .ok (.aload_n 0, 1) := by decide +kernel
theorem d_R_tick_48 : decode b_R_tick 48 = .ok (.iload_n 2, 1) := by decide +kernel
theorem d_R_tick_49 : decode b_R_tick 49 = .ok (.invokevirtual 136, 3) := by decide +kernel
theorem d_R_tick_52 : decode b_R_tick 52 = .ok (.putfield 34, 3) := by decide +kernel
theorem d_R_tick_55 : decode b_R_tick 55 = .ok (.iload_n 3, 1) := by decide +kernel
theorem d_R_tick_56 : decode b_R_tick 56 = .ok (.aload_n 0, 1) := by decide +kernel
theorem d_R_tick_57 : decode b_R_tick 57 = .ok (.invokevirtual 61, 3) := by decide +kernel
theorem d_R_tick_60 : decode b_R_tick 60 = .ok (.iadd, 1) := by decide +kernel
theorem d_R_tick_61 : decode b_R_tick 61 = .ok (.istore_n 3, 1) := by decide +kernel
theorem d_R_tick_62 : decode b_R_tick 62 = .ok (.iinc 4 1, 3) := by decide +kernel
theorem d_R_tick_65 : decode b_R_tick 65 = .ok (.goto (-33), 3) := by decide +kernel
theorem d_R_tick_68 : decode b_R_tick 68 = .ok (.iload_n 3, 1) := by decide +kernel
theorem d_R_tick_69 : decode b_R_tick 69 = .ok (.ireturn, 1) := by decide +kernel
theorem d_R_unitAt_0 : decode b_R_unitAt 0 = .ok (.aload_n 0, 1) := by decide +kernel
theorem d_R_unitAt_1 : decode b_R_unitAt 1 = .ok (.getfield 10, 3) := by decide +kernel
theorem d_R_unitAt_4 : decode b_R_unitAt 4 = .ok (.iload_n 1, 1) := by decide +kernel
theorem d_R_unitAt_5 : decode b_R_unitAt 5 = .ok (.invokevirtual 65, 3) := by decide +kernel
theorem d_R_unitAt_8 : decode b_R_unitAt 8 = .ok (.invokestatic 69, 3) := by decide +kernel
theorem d_R_unitAt_11 : decode b_R_unitAt 11 = .ok (.iload_n 2, 1) := by decide +kernel
theorem d_R_unitAt_12 : decode b_R_unitAt 12 = .ok (.tableswitch 102 0 4 #[36, 46, 56, 66, 92], 36) := by decide +kernel
theorem d_R_unitAt_48 : decode b_R_unitAt 48 = .ok (.aload_n 0, 1) := by decide +kernel
theorem d_R_unitAt_49 : decode b_R_unitAt 49 = .ok (.getfield 10, 3) := by decide +kernel
theorem d_R_unitAt_52 : decode b_R_unitAt 52 = .ok (.getfield 100, 3) := by decide +kernel
theorem d_R_unitAt_55 : decode b_R_unitAt 55 = .ok (.iload_n 1, 1) := by decide +kernel
theorem d_R_unitAt_56 : decode b_R_unitAt 56 = .ok (.iaload, 1) := by decide +kernel
theorem d_R_unitAt_57 : decode b_R_unitAt 57 = .ok (.ireturn, 1) := by decide +kernel
theorem d_R_unitAt_58 : decode b_R_unitAt 58 = .ok (.aload_n 0, 1) := by decide +kernel
theorem d_R_unitAt_59 : decode b_R_unitAt 59 = .ok (.getfield 10, 3) := by decide +kernel
theorem d_R_unitAt_62 : decode b_R_unitAt 62 = .ok (.getfield 139, 3) := by decide +kernel
theorem d_R_unitAt_65 : decode b_R_unitAt 65 = .ok (.iload_n 1, 1) := by decide +kernel
theorem d_R_unitAt_66 : decode b_R_unitAt 66 = .ok (.iaload, 1) := by decide +kernel
theorem d_R_unitAt_67 : decode b_R_unitAt 67 = .ok (.ireturn, 1) := by decide +kernel
theorem d_R_unitAt_68 : decode b_R_unitAt 68 = .ok (.aload_n 0, 1) := by decide +kernel
theorem d_R_unitAt_69 : decode b_R_unitAt 69 = .ok (.getfield 10, 3) := by decide +kernel
theorem d_R_unitAt_72 : decode b_R_unitAt 72 = .ok (.getfield 142, 3) := by decide +kernel
theorem d_R_unitAt_75 : decode b_R_unitAt 75 = .ok (.iload_n 1, 1) := by decide +kernel
theorem d_R_unitAt_76 : decode b_R_unitAt 76 = .ok (.iaload, 1) := by decide +kernel
theorem d_R_unitAt_77 : decode b_R_unitAt 77 = .ok (.ireturn, 1) := by decide +kernel
theorem d_R_unitAt_78 : decode b_R_unitAt 78 = .ok (.aload_n 0, 1) := by decide +kernel
theorem d_R_unitAt_79 : decode b_R_unitAt 79 = .ok (.getfield 10, 3) := by decide +kernel
theorem d_R_unitAt_82 : decode b_R_unitAt 82 = .ok (.getfield 100, 3) := by decide +kernel
theorem d_R_unitAt_85 : decode b_R_unitAt 85 = .ok (.iload_n 1, 1) := by decide +kernel
theorem d_R_unitAt_86 : decode b_R_unitAt 86 = .ok (.iaload, 1) := by decide +kernel
theorem d_R_unitAt_87 : decode b_R_unitAt 87 = .ok (.iconst 5, 1) := by decide +kernel
theorem d_R_unitAt_88 : decode b_R_unitAt 88 = .ok (.if_icmp .ne 14, 3) := by decide +kernel
theorem d_R_unitAt_91 : decode b_R_unitAt 91 = .ok (.aload_n 0, 1) := by decide +kernel
theorem d_R_unitAt_92 : decode b_R_unitAt 92 = .ok (.getfield 10, 3) := by decide +kernel
theorem d_R_unitAt_95 : decode b_R_unitAt 95 = .ok (.iload_n 1, 1) := by decide +kernel
theorem d_R_unitAt_96 : decode b_R_unitAt 96 = .ok (.invokevirtual 145, 3) := by decide +kernel
theorem d_R_unitAt_99 : decode b_R_unitAt 99 = .ok (.goto 4, 3) := by decide +kernel
theorem d_R_unitAt_102 : decode b_R_unitAt 102 = .ok (.iconst 0, 1) := by decide +kernel
theorem d_R_unitAt_103 : decode b_R_unitAt 103 = .ok (.ireturn, 1) := by decide +kernel
theorem d_R_unitAt_104 : decode b_R_unitAt 104 = .ok (.aload_n 0, 1) := by decide +kernel
theorem d_R_unitAt_105 : decode b_R_unitAt 105 = .ok (.getfield 10, 3) := by decide +kernel
theorem d_R_unitAt_108 : decode b_R_unitAt 108 = .ok (.getfield 148, 3) := by decide +kernel
theorem d_R_unitAt_111 : decode b_R_unitAt 111 = .ok (.iload_n 1, 1) := by decide +kernel
theorem d_R_unitAt_112 : decode b_R_unitAt 112 = .ok (.iaload, 1) := by decide +kernel
theorem d_R_unitAt_113 : decode b_R_unitAt 113 = .ok (.ireturn, 1) := by decide +kernel
theorem d_R_unitAt_114 : decode b_R_unitAt 114 = .ok (.new 151, 3) := by decide +kernel
theorem d_R_unitAt_117 : decode b_R_unitAt 117 = .ok (.dup, 1) := by decide +kernel
theorem d_R_unitAt_118 : decode b_R_unitAt 118 = .ok (.ldc 153, 2) := by decide +kernel
theorem d_R_unitAt_120 : decode b_R_unitAt 120 = .ok (.invokespecial 155, 3) := by decide +kernel
theorem d_R_unitAt_123 : decode b_R_unitAt 123 = .ok (.athrow, 1) := by decide +kernel
theorem d_R_incidentAt_0 : decode b_R_incidentAt 0 = .ok (.aload_n 0, 1) := by decide +kernel
theorem d_R_incidentAt_1 : decode b_R_incidentAt 1 = .ok (.getfield 19, 3) := by decide +kernel
theorem d_R_incidentAt_4 : decode b_R_incidentAt 4 = .ok (.iload_n 1, 1) := by decide +kernel
theorem d_R_incidentAt_5 : decode b_R_incidentAt 5 = .ok (.invokevirtual 99, 3) := by decide +kernel
theorem d_R_incidentAt_8 : decode b_R_incidentAt 8 = .ok (.invokestatic 69, 3) := by decide +kernel
theorem d_R_incidentAt_11 : decode b_R_incidentAt 11 = .ok (.iload_n 2, 1) := by decide +kernel
theorem d_R_incidentAt_12 : decode b_R_incidentAt 12 = .ok (.tableswitch 145 0 7 #[48, 66, 75, 84, 94, 104, 114, 124], 48) := by decide +kernel
theorem d_R_incidentAt_60 : decode b_R_incidentAt 60 = .ok (.aload_n 0, 1) := by decide +kernel
theorem d_R_incidentAt_61 : decode b_R_incidentAt 61 = .ok (.getfield 19, 3) := by decide +kernel
theorem d_R_incidentAt_64 : decode b_R_incidentAt 64 = .ok (.getfield 88, 3) := by decide +kernel
theorem d_R_incidentAt_67 : decode b_R_incidentAt 67 = .ok (.iload_n 1, 1) := by decide +kernel
theorem d_R_incidentAt_68 : decode b_R_incidentAt 68 = .ok (.baload, 1) := by decide +kernel
theorem d_R_incidentAt_69 : decode b_R_incidentAt 69 = .ok (.ifCond .eq 7, 3) := by decide +kernel
theorem d_R_incidentAt_72 : decode b_R_incidentAt 72 = .ok (.iconst 1, 1) := by decide +kernel
theorem d_R_incidentAt_73 : decode b_R_incidentAt 73 = .ok (.goto 4, 3) := by decide +kernel
theorem d_R_incidentAt_76 : decode b_R_incidentAt 76 = .ok (.iconst 0, 1) := by decide +kernel
theorem d_R_incidentAt_77 : decode b_R_incidentAt 77 = .ok (.ireturn, 1) := by decide +kernel
theorem d_R_incidentAt_78 : decode b_R_incidentAt 78 = .ok (.aload_n 0, 1) := by decide +kernel
theorem d_R_incidentAt_79 : decode b_R_incidentAt 79 = .ok (.getfield 10, 3) := by decide +kernel
theorem d_R_incidentAt_82 : decode b_R_incidentAt 82 = .ok (.iload_n 1, 1) := by decide +kernel
theorem d_R_incidentAt_83 : decode b_R_incidentAt 83 = .ok (.invokevirtual 158, 3) := by decide +kernel
theorem d_R_incidentAt_86 : decode b_R_incidentAt 86 = .ok (.ireturn, 1) := by decide +kernel
theorem d_R_incidentAt_87 : decode b_R_incidentAt 87 = .ok (.aload_n 0, 1) := by decide +kernel
theorem d_R_incidentAt_88 : decode b_R_incidentAt 88 = .ok (.getfield 26, 3) := by decide +kernel
theorem d_R_incidentAt_91 : decode b_R_incidentAt 91 = .ok (.iload_n 1, 1) := by decide +kernel
theorem d_R_incidentAt_92 : decode b_R_incidentAt 92 = .ok (.invokevirtual 161, 3) := by decide +kernel
theorem d_R_incidentAt_95 : decode b_R_incidentAt 95 = .ok (.ireturn, 1) := by decide +kernel
theorem d_R_incidentAt_96 : decode b_R_incidentAt 96 = .ok (.aload_n 0, 1) := by decide +kernel
theorem d_R_incidentAt_97 : decode b_R_incidentAt 97 = .ok (.getfield 19, 3) := by decide +kernel
theorem d_R_incidentAt_100 : decode b_R_incidentAt 100 = .ok (.getfield 164, 3) := by decide +kernel
theorem d_R_incidentAt_103 : decode b_R_incidentAt 103 = .ok (.iload_n 1, 1) := by decide +kernel
theorem d_R_incidentAt_104 : decode b_R_incidentAt 104 = .ok (.iaload, 1) := by decide +kernel
theorem d_R_incidentAt_105 : decode b_R_incidentAt 105 = .ok (.ireturn, 1) := by decide +kernel
theorem d_R_incidentAt_106 : decode b_R_incidentAt 106 = .ok (.aload_n 0, 1) := by decide +kernel
theorem d_R_incidentAt_107 : decode b_R_incidentAt 107 = .ok (.getfield 19, 3) := by decide +kernel
theorem d_R_incidentAt_110 : decode b_R_incidentAt 110 = .ok (.getfield 167, 3) := by decide +kernel
theorem d_R_incidentAt_113 : decode b_R_incidentAt 113 = .ok (.iload_n 1, 1) := by decide +kernel
theorem d_R_incidentAt_114 : decode b_R_incidentAt 114 = .ok (.iaload, 1) := by decide +kernel
theorem d_R_incidentAt_115 : decode b_R_incidentAt 115 = .ok (.ireturn, 1) := by decide +kernel
theorem d_R_incidentAt_116 : decode b_R_incidentAt 116 = .ok (.aload_n 0, 1) := by decide +kernel
theorem d_R_incidentAt_117 : decode b_R_incidentAt 117 = .ok (.getfield 19, 3) := by decide +kernel
theorem d_R_incidentAt_120 : decode b_R_incidentAt 120 = .ok (.getfield 170, 3) := by decide +kernel
theorem d_R_incidentAt_123 : decode b_R_incidentAt 123 = .ok (.iload_n 1, 1) := by decide +kernel
theorem d_R_incidentAt_124 : decode b_R_incidentAt 124 = .ok (.iaload, 1) := by decide +kernel
theorem d_R_incidentAt_125 : decode b_R_incidentAt 125 = .ok (.ireturn, 1) := by decide +kernel
theorem d_R_incidentAt_126 : decode b_R_incidentAt 126 = .ok (.aload_n 0, 1) := by decide +kernel
theorem d_R_incidentAt_127 : decode b_R_incidentAt 127 = .ok (.getfield 19, 3) := by decide +kernel
theorem d_R_incidentAt_130 : decode b_R_incidentAt 130 = .ok (.getfield 129, 3) := by decide +kernel
theorem d_R_incidentAt_133 : decode b_R_incidentAt 133 = .ok (.iload_n 1, 1) := by decide +kernel
theorem d_R_incidentAt_134 : decode b_R_incidentAt 134 = .ok (.iaload, 1) := by decide +kernel
theorem d_R_incidentAt_135 : decode b_R_incidentAt 135 = .ok (.ireturn, 1) := by decide +kernel
theorem d_R_incidentAt_136 : decode b_R_incidentAt 136 = .ok (.aload_n 0, 1) := by decide +kernel
theorem d_R_incidentAt_137 : decode b_R_incidentAt 137 = .ok (.getfield 19, 3) := by decide +kernel
theorem d_R_incidentAt_140 : decode b_R_incidentAt 140 = .ok (.iload_n 1, 1) := by decide +kernel
theorem d_R_incidentAt_141 : decode b_R_incidentAt 141 = .ok (.aload_n 0, 1) := by decide +kernel
theorem d_R_incidentAt_142 : decode b_R_incidentAt 142 = .ok (.getfield 34, 3) := by decide +kernel
theorem d_R_incidentAt_145 : decode b_R_incidentAt 145 = .ok (.invokevirtual 173, 3) := by decide +kernel
theorem d_R_incidentAt_148 : decode b_R_incidentAt 148 = .ok (.ifCond .eq 7, 3) := by decide +kernel
theorem d_R_incidentAt_151 : decode b_R_incidentAt 151 = .ok (.iconst 1, 1) := by decide +kernel
theorem d_R_incidentAt_152 : decode b_R_incidentAt 152 = .ok (.goto 4, 3) := by decide +kernel
theorem d_R_incidentAt_155 : decode b_R_incidentAt 155 = .ok (.iconst 0, 1) := by decide +kernel
theorem d_R_incidentAt_156 : decode b_R_incidentAt 156 = .ok (.ireturn, 1) := by decide +kernel
theorem d_R_incidentAt_157 : decode b_R_incidentAt 157 = .ok (.new 151, 3) := by decide +kernel
theorem d_R_incidentAt_160 : decode b_R_incidentAt 160 = .ok (.dup, 1) := by decide +kernel
theorem d_R_incidentAt_161 : decode b_R_incidentAt 161 = .ok (.ldc 153, 2) := by decide +kernel
theorem d_R_incidentAt_163 : decode b_R_incidentAt 163 = .ok (.invokespecial 155, 3) := by decide +kernel
theorem d_R_incidentAt_166 : decode b_R_incidentAt 166 = .ok (.athrow, 1) := by decide +kernel
theorem d_R_count_0 : decode b_R_count 0 = .ok (.iload_n 1, 1) := by decide +kernel
theorem d_R_count_1 : decode b_R_count 1 = .ok (.tableswitch 60 0 3 #[31, 36, 44, 52], 31) := by decide +kernel
theorem d_R_count_32 : decode b_R_count 32 = .ok (.aload_n 0, 1) := by decide +kernel
theorem d_R_count_33 : decode b_R_count 33 = .ok (.getfield 34, 3) := by decide +kernel
theorem d_R_count_36 : decode b_R_count 36 = .ok (.ireturn, 1) := by decide +kernel
theorem d_R_count_37 : decode b_R_count 37 = .ok (.aload_n 0, 1) := by decide +kernel
theorem d_R_count_38 : decode b_R_count 38 = .ok (.getfield 10, 3) := by decide +kernel
theorem d_R_count_41 : decode b_R_count 41 = .ok (.invokevirtual 177, 3) := by decide +kernel
theorem d_R_count_44 : decode b_R_count 44 = .ok (.ireturn, 1) := by decide +kernel
theorem d_R_count_45 : decode b_R_count 45 = .ok (.aload_n 0, 1) := by decide +kernel
theorem d_R_count_46 : decode b_R_count 46 = .ok (.getfield 26, 3) := by decide +kernel
theorem d_R_count_49 : decode b_R_count 49 = .ok (.getfield 76, 3) := by decide +kernel
theorem d_R_count_52 : decode b_R_count 52 = .ok (.ireturn, 1) := by decide +kernel
theorem d_R_count_53 : decode b_R_count 53 = .ok (.aload_n 0, 1) := by decide +kernel
theorem d_R_count_54 : decode b_R_count 54 = .ok (.getfield 19, 3) := by decide +kernel
theorem d_R_count_57 : decode b_R_count 57 = .ok (.invokevirtual 180, 3) := by decide +kernel
theorem d_R_count_60 : decode b_R_count 60 = .ok (.ireturn, 1) := by decide +kernel
theorem d_R_count_61 : decode b_R_count 61 = .ok (.iload_n 1, 1) := by decide +kernel
theorem d_R_count_62 : decode b_R_count 62 = .ok (.bipush 10, 2) := by decide +kernel
theorem d_R_count_64 : decode b_R_count 64 = .ok (.if_icmp .lt 17, 3) := by decide +kernel
theorem d_R_count_67 : decode b_R_count 67 = .ok (.iload_n 1, 1) := by decide +kernel
theorem d_R_count_68 : decode b_R_count 68 = .ok (.bipush 10, 2) := by decide +kernel
theorem d_R_count_70 : decode b_R_count 70 = .ok (.isub, 1) := by decide +kernel
theorem d_R_count_71 : decode b_R_count 71 = .ok (.invokestatic 116, 3) := by decide +kernel
theorem d_R_count_74 : decode b_R_count 74 = .ok (.ifCond .eq 7, 3) := by decide +kernel
theorem d_R_count_77 : decode b_R_count 77 = .ok (.iconst 1, 1) := by decide +kernel
theorem d_R_count_78 : decode b_R_count 78 = .ok (.goto 4, 3) := by decide +kernel
theorem d_R_count_81 : decode b_R_count 81 = .ok (.iconst 0, 1) := by decide +kernel
theorem d_R_count_82 : decode b_R_count 82 = .ok (.invokestatic 69, 3) := by decide +kernel
theorem d_R_count_85 : decode b_R_count 85 = .ok (.aload_n 0, 1) := by decide +kernel
theorem d_R_count_86 : decode b_R_count 86 = .ok (.getfield 30, 3) := by decide +kernel
theorem d_R_count_89 : decode b_R_count 89 = .ok (.iload_n 1, 1) := by decide +kernel
theorem d_R_count_90 : decode b_R_count 90 = .ok (.bipush 10, 2) := by decide +kernel
theorem d_R_count_92 : decode b_R_count 92 = .ok (.isub, 1) := by decide +kernel
theorem d_R_count_93 : decode b_R_count 93 = .ok (.iaload, 1) := by decide +kernel
theorem d_R_count_94 : decode b_R_count 94 = .ok (.ireturn, 1) := by decide +kernel
theorem d_R_needKnown_0 : decode b_R_needKnown 0 = .ok (.iload_n 0, 1) := by decide +kernel
theorem d_R_needKnown_1 : decode b_R_needKnown 1 = .ok (.ifCond .ne 13, 3) := by decide +kernel
theorem d_R_needKnown_4 : decode b_R_needKnown 4 = .ok (.new 151, 3) := by decide +kernel
theorem d_R_needKnown_7 : decode b_R_needKnown 7 = .ok (.dup, 1) := by decide +kernel
theorem d_R_needKnown_8 : decode b_R_needKnown 8 = .ok (.ldc 183, 2) := by decide +kernel
theorem d_R_needKnown_10 : decode b_R_needKnown 10 = .ok (.invokespecial 155, 3) := by decide +kernel
theorem d_R_needKnown_13 : decode b_R_needKnown 13 = .ok (.athrow, 1) := by decide +kernel
theorem d_R_needKnown_14 : decode b_R_needKnown 14 = .ok (.return_, 1) := by decide +kernel
theorem d_R_needRange_0 : decode b_R_needRange 0 = .ok (.iload_n 0, 1) := by decide +kernel
theorem d_R_needRange_1 : decode b_R_needRange 1 = .ok (.iload_n 1, 1) := by decide +kernel
theorem d_R_needRange_2 : decode b_R_needRange 2 = .ok (.if_icmp .lt 8, 3) := by decide +kernel
theorem d_R_needRange_5 : decode b_R_needRange 5 = .ok (.iload_n 0, 1) := by decide +kernel
theorem d_R_needRange_6 : decode b_R_needRange 6 = .ok (.iload_n 2, 1) := by decide +kernel
theorem d_R_needRange_7 : decode b_R_needRange 7 = .ok (.if_icmp .le 13, 3) := by decide +kernel
theorem d_R_needRange_10 : decode b_R_needRange 10 = .ok (.new 185, 3) := by decide +kernel
theorem d_R_needRange_13 : decode b_R_needRange 13 = .ok (.dup, 1) := by decide +kernel
theorem d_R_needRange_14 : decode b_R_needRange 14 = .ok (.ldc 187, 2) := by decide +kernel
theorem d_R_needRange_16 : decode b_R_needRange 16 = .ok (.invokespecial 189, 3) := by decide +kernel
theorem d_R_needRange_19 : decode b_R_needRange 19 = .ok (.athrow, 1) := by decide +kernel
theorem d_R_needRange_20 : decode b_R_needRange 20 = .ok (.return_, 1) := by decide +kernel
theorem d_R_needState_0 : decode b_R_needState 0 = .ok (.iload_n 0, 1) := by decide +kernel
theorem d_R_needState_1 : decode b_R_needState 1 = .ok (.ifCond .ne 13, 3) := by decide +kernel
theorem d_R_needState_4 : decode b_R_needState 4 = .ok (.new 190, 3) := by decide +kernel
theorem d_R_needState_7 : decode b_R_needState 7 = .ok (.dup, 1) := by decide +kernel
theorem d_R_needState_8 : decode b_R_needState 8 = .ok (.ldc 192, 2) := by decide +kernel
theorem d_R_needState_10 : decode b_R_needState 10 = .ok (.invokespecial 194, 3) := by decide +kernel
theorem d_R_needState_13 : decode b_R_needState 13 = .ok (.athrow, 1) := by decide +kernel
theorem d_R_needState_14 : decode b_R_needState 14 = .ok (.return_, 1) := by decide +kernel
theorem d_R_needRoom_0 : decode b_R_needRoom 0 = .ok (.iload_n 0, 1) := by decide +kernel
theorem d_R_needRoom_1 : decode b_R_needRoom 1 = .ok (.ifCond .ne 13, 3) := by decide +kernel
theorem d_R_needRoom_4 : decode b_R_needRoom 4 = .ok (.new 195, 3) := by decide +kernel
theorem d_R_needRoom_7 : decode b_R_needRoom 7 = .ok (.dup, 1) := by decide +kernel
theorem d_R_needRoom_8 : decode b_R_needRoom 8 = .ok (.ldc 197, 2) := by decide +kernel
theorem d_R_needRoom_10 : decode b_R_needRoom 10 = .ok (.invokespecial 199, 3) := by decide +kernel
theorem d_R_needRoom_13 : decode b_R_needRoom 13 = .ok (.athrow, 1) := by decide +kernel
theorem d_R_needRoom_14 : decode b_R_needRoom 14 = .ok (.return_, 1) := by decide +kernel
theorem d_R_isGood_0 : decode b_R_isGood 0 = .ok (.iload_n 0, 1) := by decide +kernel
theorem d_R_isGood_1 : decode b_R_isGood 1 = .ok (.ifCond .lt 13, 3) := by decide +kernel
theorem d_R_isGood_4 : decode b_R_isGood 4 = .ok (.iload_n 0, 1) := by decide +kernel
theorem d_R_isGood_5 : decode b_R_isGood 5 = .ok (.bipush 6, 2) := by decide +kernel
theorem d_R_isGood_7 : decode b_R_isGood 7 = .ok (.if_icmp .ge 7, 3) := by decide +kernel
theorem d_R_isGood_10 : decode b_R_isGood 10 = .ok (.iconst 1, 1) := by decide +kernel
theorem d_R_isGood_11 : decode b_R_isGood 11 = .ok (.goto 4, 3) := by decide +kernel
theorem d_R_isGood_14 : decode b_R_isGood 14 = .ok (.iconst 0, 1) := by decide +kernel
theorem d_R_isGood_15 : decode b_R_isGood 15 = .ok (.ireturn, 1) := by decide +kernel
theorem d_R_isPast_0 : decode b_R_isPast 0 = .ok (.aload_n 0, 1) := by decide +kernel
theorem d_R_isPast_1 : decode b_R_isPast 1 = .ok (.getfield 19, 3) := by decide +kernel
theorem d_R_isPast_4 : decode b_R_isPast 4 = .ok (.getfield 88, 3) := by decide +kernel
theorem d_R_isPast_7 : decode b_R_isPast 7 = .ok (.iload_n 1, 1) := by decide +kernel
theorem d_R_isPast_8 : decode b_R_isPast 8 = .ok (.baload, 1) := by decide +kernel
theorem d_R_isPast_9 : decode b_R_isPast 9 = .ok (.ifCond .ne 28, 3) := by decide +kernel
theorem d_R_isPast_12 : decode b_R_isPast 12 = .ok (.aload_n 0, 1) := by decide +kernel
theorem d_R_isPast_13 : decode b_R_isPast 13 = .ok (.getfield 34, 3) := by decide +kernel
theorem d_R_isPast_16 : decode b_R_isPast 16 = .ok (.aload_n 0, 1) := by decide +kernel
theorem d_R_isPast_17 : decode b_R_isPast 17 = .ok (.getfield 19, 3) := by decide +kernel
theorem d_R_isPast_20 : decode b_R_isPast 20 = .ok (.getfield 170, 3) := by decide +kernel
theorem d_R_isPast_23 : decode b_R_isPast 23 = .ok (.iload_n 1, 1) := by decide +kernel
theorem d_R_isPast_24 : decode b_R_isPast 24 = .ok (.iaload, 1) := by decide +kernel
theorem d_R_isPast_25 : decode b_R_isPast 25 = .ok (.isub, 1) := by decide +kernel
theorem d_R_isPast_26 : decode b_R_isPast 26 = .ok (.aload_n 0, 1) := by decide +kernel
theorem d_R_isPast_27 : decode b_R_isPast 27 = .ok (.getfield 38, 3) := by decide +kernel
theorem d_R_isPast_30 : decode b_R_isPast 30 = .ok (.if_icmp .le 7, 3) := by decide +kernel
theorem d_R_isPast_33 : decode b_R_isPast 33 = .ok (.iconst 1, 1) := by decide +kernel
theorem d_R_isPast_34 : decode b_R_isPast 34 = .ok (.goto 4, 3) := by decide +kernel
theorem d_R_isPast_37 : decode b_R_isPast 37 = .ok (.iconst 0, 1) := by decide +kernel
theorem d_R_isPast_38 : decode b_R_isPast 38 = .ok (.ireturn, 1) := by decide +kernel
theorem d_R_bring_0 : decode b_R_bring 0 = .ok (.aload_n 0, 1) := by decide +kernel
theorem d_R_bring_1 : decode b_R_bring 1 = .ok (.getfield 10, 3) := by decide +kernel
theorem d_R_bring_4 : decode b_R_bring 4 = .ok (.iload_n 1, 1) := by decide +kernel
theorem d_R_bring_5 : decode b_R_bring 5 = .ok (.iload_n 2, 1) := by decide +kernel
theorem d_R_bring_6 : decode b_R_bring 6 = .ok (.aload_n 0, 1) := by decide +kernel
theorem d_R_bring_7 : decode b_R_bring 7 = .ok (.getfield 34, 3) := by decide +kernel
theorem d_R_bring_10 : decode b_R_bring 10 = .ok (.invokevirtual 200, 3) := by decide +kernel
theorem d_R_bring_13 : decode b_R_bring 13 = .ok (.aload_n 0, 1) := by decide +kernel
theorem d_R_bring_14 : decode b_R_bring 14 = .ok (.getfield 19, 3) := by decide +kernel
theorem d_R_bring_17 : decode b_R_bring 17 = .ok (.getfield 203, 3) := by decide +kernel
theorem d_R_bring_20 : decode b_R_bring 20 = .ok (.iload_n 2, 1) := by decide +kernel
theorem d_R_bring_21 : decode b_R_bring 21 = .ok (.iconst 1, 1) := by decide +kernel
theorem d_R_bring_22 : decode b_R_bring 22 = .ok (.bastore, 1) := by decide +kernel
theorem d_R_bring_23 : decode b_R_bring 23 = .ok (.return_, 1) := by decide +kernel
theorem d_R_settle_0 : decode b_R_settle 0 = .ok (.iconst 0, 1) := by decide +kernel
theorem d_R_settle_1 : decode b_R_settle 1 = .ok (.istore_n 1, 1) := by decide +kernel
theorem d_R_settle_2 : decode b_R_settle 2 = .ok (.iload_n 1, 1) := by decide +kernel
theorem d_R_settle_3 : decode b_R_settle 3 = .ok (.aload_n 0, 1) := by decide +kernel
theorem d_R_settle_4 : decode b_R_settle 4 = .ok (.getfield 10, 3) := by decide +kernel
theorem d_R_settle_7 : decode b_R_settle 7 = .ok (.getfield 46, 3) := by decide +kernel
theorem d_R_settle_10 : decode b_R_settle 10 = .ok (.if_icmp .ge 25, 3) := by decide +kernel
theorem d_R_settle_13 : decode b_R_settle 13 = .ok (.aload_n 0, 1) := by decide +kernel
theorem d_R_settle_14 : decode b_R_settle 14 = .ok (.getfield 10, 3) := by decide +kernel
theorem d_R_settle_17 : decode b_R_settle 17 = .ok (.iload_n 1, 1) := by decide +kernel
theorem d_R_settle_18 : decode b_R_settle 18 = .ok (.aload_n 0, 1) := by decide +kernel
theorem d_R_settle_19 : decode b_R_settle 19 = .ok (.getfield 30, 3) := by decide +kernel
theorem d_R_settle_22 : decode b_R_settle 22 = .ok (.aload_n 0, 1) := by decide +kernel
theorem d_R_settle_23 : decode b_R_settle 23 = .ok (.getfield 34, 3) := by decide +kernel
theorem d_R_settle_26 : decode b_R_settle 26 = .ok (.invokevirtual 206, 3) := by decide +kernel
theorem d_R_settle_29 : decode b_R_settle 29 = .ok (.iinc 1 1, 3) := by decide +kernel
theorem d_R_settle_32 : decode b_R_settle 32 = .ok (.goto (-30), 3) := by decide +kernel
theorem d_R_settle_35 : decode b_R_settle 35 = .ok (.aload_n 0, 1) := by decide +kernel
theorem d_R_settle_36 : decode b_R_settle 36 = .ok (.invokevirtual 210, 3) := by decide +kernel
theorem d_R_settle_39 : decode b_R_settle 39 = .ok (.aload_n 0, 1) := by decide +kernel
theorem d_R_settle_40 : decode b_R_settle 40 = .ok (.invokevirtual 213, 3) := by decide +kernel
theorem d_R_settle_43 : decode b_R_settle 43 = .ok (.ireturn, 1) := by decide +kernel
theorem d_R_giveUnitsToCalls_0 : decode b_R_giveUnitsToCalls 0 = .ok (.iconst 0, 1) := by decide +kernel
theorem d_R_giveUnitsToCalls_1 : decode b_R_giveUnitsToCalls 1 = .ok (.istore_n 1, 1) := by decide +kernel
theorem d_R_giveUnitsToCalls_2 : decode b_R_giveUnitsToCalls 2 = .ok (.iload_n 1, 1) := by decide +kernel
theorem d_R_giveUnitsToCalls_3 : decode b_R_giveUnitsToCalls 3 = .ok (.bipush 30, 2) := by decide +kernel
theorem d_R_giveUnitsToCalls_5 : decode b_R_giveUnitsToCalls 5 = .ok (.if_icmp .ge 45, 3) := by decide +kernel
theorem d_R_giveUnitsToCalls_8 : decode b_R_giveUnitsToCalls 8 = .ok (.aload_n 0, 1) := by decide +kernel
theorem d_R_giveUnitsToCalls_9 : decode b_R_giveUnitsToCalls 9 = .ok (.getfield 26, 3) := by decide +kernel
theorem d_R_giveUnitsToCalls_12 : decode b_R_giveUnitsToCalls 12 = .ok (.getfield 76, 3) := by decide +kernel
theorem d_R_giveUnitsToCalls_15 : decode b_R_giveUnitsToCalls 15 = .ok (.ifCond .le 35, 3) := by decide +kernel
theorem d_R_giveUnitsToCalls_18 : decode b_R_giveUnitsToCalls 18 = .ok (.aload_n 0, 1) := by decide +kernel
theorem d_R_giveUnitsToCalls_19 : decode b_R_giveUnitsToCalls 19 = .ok (.getfield 10, 3) := by decide +kernel
theorem d_R_giveUnitsToCalls_22 : decode b_R_giveUnitsToCalls 22 = .ok (.invokevirtual 216, 3) := by decide +kernel
theorem d_R_giveUnitsToCalls_25 : decode b_R_giveUnitsToCalls 25 = .ok (.istore_n 2, 1) := by decide +kernel
theorem d_R_giveUnitsToCalls_26 : decode b_R_giveUnitsToCalls 26 = .ok (.iload_n 2, 1) := by decide +kernel
theorem d_R_giveUnitsToCalls_27 : decode b_R_giveUnitsToCalls 27 = .ok (.iconst (-1), 1) := by decide +kernel
theorem d_R_giveUnitsToCalls_28 : decode b_R_giveUnitsToCalls 28 = .ok (.if_icmp .ne 4, 3) := by decide +kernel
theorem d_R_giveUnitsToCalls_31 : decode b_R_giveUnitsToCalls 31 = .ok (.return_, 1) := by decide +kernel
theorem d_R_giveUnitsToCalls_32 : decode b_R_giveUnitsToCalls 32 = .ok (.aload_n 0, 1) := by decide +kernel
theorem d_R_giveUnitsToCalls_33 : decode b_R_giveUnitsToCalls 33 = .ok (.iload_n 2, 1) := by decide +kernel
theorem d_R_giveUnitsToCalls_34 : decode b_R_giveUnitsToCalls 34 = .ok (.aload_n 0, 1) := by decide +kernel
theorem d_R_giveUnitsToCalls_35 : decode b_R_giveUnitsToCalls 35 = .ok (.getfield 26, 3) := by decide +kernel
theorem d_R_giveUnitsToCalls_38 : decode b_R_giveUnitsToCalls 38 = .ok (.invokevirtual 219, 3) := by decide +kernel
theorem d_R_giveUnitsToCalls_41 : decode b_R_giveUnitsToCalls 41 = .ok (.invokevirtual 106, 3) := by decide +kernel
theorem d_R_giveUnitsToCalls_44 : decode b_R_giveUnitsToCalls 44 = .ok (.iinc 1 1, 3) := by decide +kernel
theorem d_R_giveUnitsToCalls_47 : decode b_R_giveUnitsToCalls 47 = .ok (.goto (-45), 3) := by decide +kernel
theorem d_R_giveUnitsToCalls_50 : decode b_R_giveUnitsToCalls 50 = .ok (.return_, 1) := by decide +kernel
theorem d_R_closeIncidents_0 : decode b_R_closeIncidents 0 = .ok (.iconst 0, 1) := by decide +kernel
theorem d_R_closeIncidents_1 : decode b_R_closeIncidents 1 = .ok (.istore_n 1, 1) := by decide +kernel
theorem d_R_closeIncidents_2 : decode b_R_closeIncidents 2 = .ok (.iconst 0, 1) := by decide +kernel
theorem d_R_closeIncidents_3 : decode b_R_closeIncidents 3 = .ok (.istore_n 2, 1) := by decide +kernel
theorem d_R_closeIncidents_4 : decode b_R_closeIncidents 4 = .ok (.iload_n 2, 1) := by decide +kernel
theorem d_R_closeIncidents_5 : decode b_R_closeIncidents 5 = .ok (.aload_n 0, 1) := by decide +kernel
theorem d_R_closeIncidents_6 : decode b_R_closeIncidents 6 = .ok (.getfield 19, 3) := by decide +kernel
theorem d_R_closeIncidents_9 : decode b_R_closeIncidents 9 = .ok (.getfield 84, 3) := by decide +kernel
theorem d_R_closeIncidents_12 : decode b_R_closeIncidents 12 = .ok (.if_icmp .ge 61, 3) := by decide +kernel
theorem d_R_closeIncidents_15 : decode b_R_closeIncidents 15 = .ok (.aload_n 0, 1) := by decide +kernel
theorem d_R_closeIncidents_16 : decode b_R_closeIncidents 16 = .ok (.getfield 19, 3) := by decide +kernel
theorem d_R_closeIncidents_19 : decode b_R_closeIncidents 19 = .ok (.iload_n 2, 1) := by decide +kernel
theorem d_R_closeIncidents_20 : decode b_R_closeIncidents 20 = .ok (.aload_n 0, 1) := by decide +kernel
theorem d_R_closeIncidents_21 : decode b_R_closeIncidents 21 = .ok (.getfield 34, 3) := by decide +kernel
theorem d_R_closeIncidents_24 : decode b_R_closeIncidents 24 = .ok (.invokevirtual 222, 3) := by decide +kernel
theorem d_R_closeIncidents_27 : decode b_R_closeIncidents 27 = .ok (.ifCond .eq 40, 3) := by decide +kernel
theorem d_R_closeIncidents_30 : decode b_R_closeIncidents 30 = .ok (.aload_n 0, 1) := by decide +kernel
theorem d_R_closeIncidents_31 : decode b_R_closeIncidents 31 = .ok (.getfield 10, 3) := by decide +kernel
theorem d_R_closeIncidents_34 : decode b_R_closeIncidents 34 = .ok (.iload_n 2, 1) := by decide +kernel
theorem d_R_closeIncidents_35 : decode b_R_closeIncidents 35 = .ok (.invokevirtual 158, 3) := by decide +kernel
theorem d_R_closeIncidents_38 : decode b_R_closeIncidents 38 = .ok (.ifCond .ne 29, 3) := by decide +kernel
theorem d_R_closeIncidents_41 : decode b_R_closeIncidents 41 = .ok (.aload_n 0, 1) := by decide +kernel
theorem d_R_closeIncidents_42 : decode b_R_closeIncidents 42 = .ok (.getfield 26, 3) := by decide +kernel
theorem d_R_closeIncidents_45 : decode b_R_closeIncidents 45 = .ok (.iload_n 2, 1) := by decide +kernel
theorem d_R_closeIncidents_46 : decode b_R_closeIncidents 46 = .ok (.invokevirtual 161, 3) := by decide +kernel
theorem d_R_closeIncidents_49 : decode b_R_closeIncidents 49 = .ok (.ifCond .ne 18, 3) := by decide +kernel
theorem d_R_closeIncidents_52 : decode b_R_closeIncidents 52 = .ok (.aload_n 0, 1) := by decide +kernel
theorem d_R_closeIncidents_53 : decode b_R_closeIncidents 53 = .ok (.getfield 19, 3) := by decide +kernel
theorem d_R_closeIncidents_56 : decode b_R_closeIncidents 56 = .ok (.iload_n 2, 1) := by decide +kernel
theorem d_R_closeIncidents_57 : decode b_R_closeIncidents 57 = .ok (.aload_n 0, 1) := by decide +kernel
theorem d_R_closeIncidents_58 : decode b_R_closeIncidents 58 = .ok (.getfield 34, 3) := by decide +kernel
theorem d_R_closeIncidents_61 : decode b_R_closeIncidents 61 = .ok (.invokevirtual 225, 3) := by decide +kernel
theorem d_R_closeIncidents_64 : decode b_R_closeIncidents 64 = .ok (.iinc 1 1, 3) := by decide +kernel
theorem d_R_closeIncidents_67 : decode b_R_closeIncidents 67 = .ok (.iinc 2 1, 3) := by decide +kernel
theorem d_R_closeIncidents_70 : decode b_R_closeIncidents 70 = .ok (.goto (-66), 3) := by decide +kernel
theorem d_R_closeIncidents_73 : decode b_R_closeIncidents 73 = .ok (.iload_n 1, 1) := by decide +kernel
theorem d_R_closeIncidents_74 : decode b_R_closeIncidents 74 = .ok (.ireturn, 1) := by decide +kernel
theorem d_R_nextChange_0 : decode b_R_nextChange 0 = .ok (.iload_n 1, 1) := by decide +kernel
theorem d_R_nextChange_1 : decode b_R_nextChange 1 = .ok (.istore_n 2, 1) := by decide +kernel
theorem d_R_nextChange_2 : decode b_R_nextChange 2 = .ok (.iconst 0, 1) := by decide +kernel
theorem d_R_nextChange_3 : decode b_R_nextChange 3 = .ok (.istore_n 3, 1) := by decide +kernel
theorem d_R_nextChange_4 : decode b_R_nextChange 4 = .ok (.iload_n 3, 1) := by decide +kernel
theorem d_R_nextChange_5 : decode b_R_nextChange 5 = .ok (.aload_n 0, 1) := by decide +kernel
theorem d_R_nextChange_6 : decode b_R_nextChange 6 = .ok (.getfield 10, 3) := by decide +kernel
theorem d_R_nextChange_9 : decode b_R_nextChange 9 = .ok (.getfield 46, 3) := by decide +kernel
theorem d_R_nextChange_12 : decode b_R_nextChange 12 = .ok (.if_icmp .ge 23, 3) := by decide +kernel
theorem d_R_nextChange_15 : decode b_R_nextChange 15 = .ok (.aload_n 0, 1) := by decide +kernel
theorem d_R_nextChange_16 : decode b_R_nextChange 16 = .ok (.aload_n 0, 1) := by decide +kernel
theorem d_R_nextChange_17 : decode b_R_nextChange 17 = .ok (.getfield 10, 3) := by decide +kernel
theorem d_R_nextChange_20 : decode b_R_nextChange 20 = .ok (.iload_n 3, 1) := by decide +kernel
theorem d_R_nextChange_21 : decode b_R_nextChange 21 = .ok (.invokevirtual 228, 3) := by decide +kernel
theorem d_R_nextChange_24 : decode b_R_nextChange 24 = .ok (.iload_n 2, 1) := by decide +kernel
theorem d_R_nextChange_25 : decode b_R_nextChange 25 = .ok (.invokevirtual 231, 3) := by decide +kernel
theorem d_R_nextChange_28 : decode b_R_nextChange 28 = .ok (.istore_n 2, 1) := by decide +kernel
theorem d_R_nextChange_29 : decode b_R_nextChange 29 = .ok (.iinc 3 1, 3) := by decide +kernel
theorem d_R_nextChange_32 : decode b_R_nextChange 32 = .ok (.goto (-28), 3) := by decide +kernel
theorem d_R_nextChange_35 : decode b_R_nextChange 35 = .ok (.iconst 0, 1) := by decide +kernel
theorem d_R_nextChange_36 : decode b_R_nextChange 36 = .ok (.istore_n 3, 1) := by decide +kernel
theorem d_R_nextChange_37 : decode b_R_nextChange 37 = .ok (.iload_n 3, 1) := by decide +kernel
theorem d_R_nextChange_38 : decode b_R_nextChange 38 = .ok (.aload_n 0, 1) := by decide +kernel
theorem d_R_nextChange_39 : decode b_R_nextChange 39 = .ok (.getfield 19, 3) := by decide +kernel
theorem d_R_nextChange_42 : decode b_R_nextChange 42 = .ok (.getfield 84, 3) := by decide +kernel
theorem d_R_nextChange_45 : decode b_R_nextChange 45 = .ok (.if_icmp .ge 36, 3) := by decide +kernel
theorem d_R_nextChange_48 : decode b_R_nextChange 48 = .ok (.aload_n 0, 1) := by decide +kernel
theorem d_R_nextChange_49 : decode b_R_nextChange 49 = .ok (.getfield 19, 3) := by decide +kernel
theorem d_R_nextChange_52 : decode b_R_nextChange 52 = .ok (.getfield 88, 3) := by decide +kernel
theorem d_R_nextChange_55 : decode b_R_nextChange 55 = .ok (.iload_n 3, 1) := by decide +kernel
theorem d_R_nextChange_56 : decode b_R_nextChange 56 = .ok (.baload, 1) := by decide +kernel
theorem d_R_nextChange_57 : decode b_R_nextChange 57 = .ok (.ifCond .eq 18, 3) := by decide +kernel
theorem d_R_nextChange_60 : decode b_R_nextChange 60 = .ok (.aload_n 0, 1) := by decide +kernel
theorem d_R_nextChange_61 : decode b_R_nextChange 61 = .ok (.aload_n 0, 1) := by decide +kernel
theorem d_R_nextChange_62 : decode b_R_nextChange 62 = .ok (.getfield 19, 3) := by decide +kernel
theorem d_R_nextChange_65 : decode b_R_nextChange 65 = .ok (.getfield 133, 3) := by decide +kernel
theorem d_R_nextChange_68 : decode b_R_nextChange 68 = .ok (.iload_n 3, 1) := by decide +kernel
theorem d_R_nextChange_69 : decode b_R_nextChange 69 = .ok (.iaload, 1) := by decide +kernel
theorem d_R_nextChange_70 : decode b_R_nextChange 70 = .ok (.iload_n 2, 1) := by decide +kernel
theorem d_R_nextChange_71 : decode b_R_nextChange 71 = .ok (.invokevirtual 231, 3) := by decide +kernel
theorem d_R_nextChange_74 : decode b_R_nextChange 74 = .ok (.istore_n 2, 1) := by decide +kernel
theorem d_R_nextChange_75 : decode b_R_nextChange 75 = .ok (.iinc 3 1, 3) := by decide +kernel
theorem d_R_nextChange_78 : decode b_R_nextChange 78 = .ok (.goto (-41), 3) := by decide +kernel
theorem d_R_nextChange_81 : decode b_R_nextChange 81 = .ok (.iload_n 2, 1) := by decide +kernel
theorem d_R_nextChange_82 : decode b_R_nextChange 82 = .ok (.ireturn, 1) := by decide +kernel
theorem d_R_earlierAhead_0 : decode b_R_earlierAhead 0 = .ok (.iload_n 1, 1) := by decide +kernel
theorem d_R_earlierAhead_1 : decode b_R_earlierAhead 1 = .ok (.aload_n 0, 1) := by decide +kernel
theorem d_R_earlierAhead_2 : decode b_R_earlierAhead 2 = .ok (.getfield 34, 3) := by decide +kernel
theorem d_R_earlierAhead_5 : decode b_R_earlierAhead 5 = .ok (.if_icmp .le 12, 3) := by decide +kernel
theorem d_R_earlierAhead_8 : decode b_R_earlierAhead 8 = .ok (.iload_n 1, 1) := by decide +kernel
theorem d_R_earlierAhead_9 : decode b_R_earlierAhead 9 = .ok (.iload_n 2, 1) := by decide +kernel
theorem d_R_earlierAhead_10 : decode b_R_earlierAhead 10 = .ok (.if_icmp .ge 7, 3) := by decide +kernel
theorem d_R_earlierAhead_13 : decode b_R_earlierAhead 13 = .ok (.iload_n 1, 1) := by decide +kernel
theorem d_R_earlierAhead_14 : decode b_R_earlierAhead 14 = .ok (.goto 4, 3) := by decide +kernel
theorem d_R_earlierAhead_17 : decode b_R_earlierAhead 17 = .ok (.iload_n 2, 1) := by decide +kernel
theorem d_R_earlierAhead_18 : decode b_R_earlierAhead 18 = .ok (.ireturn, 1) := by decide +kernel
end
section
theorem d_M_init_0 : decode b_M_init 0 = .ok (.aload_n 0, 1) := by decide +kernel
theorem d_M_init_1 : decode b_M_init 1 = .ok (.invokespecial 1, 3) := by decide +kernel
theorem d_M_init_4 : decode b_M_init 4 = .ok (.aload_n 0, 1) := by decide +kernel
theorem d_M_init_5 : decode b_M_init 5 = .ok (.sipush 600, 3) := by decide +kernel
theorem d_M_init_8 : decode b_M_init 8 = .ok (.putfield 7, 3) := by decide +kernel
theorem d_M_init_11 : decode b_M_init 11 = .ok (.aload_n 0, 1) := by decide +kernel
theorem d_M_init_12 : decode b_M_init 12 = .ok (.bipush 24, 2) := by decide +kernel
theorem d_M_init_14 : decode b_M_init 14 = .ok (.newarray .int, 2) := by decide +kernel
theorem d_M_init_16 : decode b_M_init 16 = .ok (.putfield 13, 3) := by decide +kernel
theorem d_M_init_19 : decode b_M_init 19 = .ok (.aload_n 0, 1) := by decide +kernel
theorem d_M_init_20 : decode b_M_init 20 = .ok (.bipush 24, 2) := by decide +kernel
theorem d_M_init_22 : decode b_M_init 22 = .ok (.newarray .int, 2) := by decide +kernel
theorem d_M_init_24 : decode b_M_init 24 = .ok (.putfield 17, 3) := by decide +kernel
theorem d_M_init_27 : decode b_M_init 27 = .ok (.aload_n 0, 1) := by decide +kernel
theorem d_M_init_28 : decode b_M_init 28 = .ok (.bipush 24, 2) := by decide +kernel
theorem d_M_init_30 : decode b_M_init 30 = .ok (.newarray .int, 2) := by decide +kernel
theorem d_M_init_32 : decode b_M_init 32 = .ok (.putfield 20, 3) := by decide +kernel
theorem d_M_init_35 : decode b_M_init 35 = .ok (.aload_n 0, 1) := by decide +kernel
theorem d_M_init_36 : decode b_M_init 36 = .ok (.bipush 24, 2) := by decide +kernel
theorem d_M_init_38 : decode b_M_init 38 = .ok (.newarray .int, 2) := by decide +kernel
theorem d_M_init_40 : decode b_M_init 40 = .ok (.putfield 23, 3) := by decide +kernel
theorem d_M_init_43 : decode b_M_init 43 = .ok (.aload_n 0, 1) := by decide +kernel
theorem d_M_init_44 : decode b_M_init 44 = .ok (.bipush 24, 2) := by decide +kernel
theorem d_M_init_46 : decode b_M_init 46 = .ok (.newarray .int, 2) := by decide +kernel
theorem d_M_init_48 : decode b_M_init 48 = .ok (.putfield 26, 3) := by decide +kernel
theorem d_M_init_51 : decode b_M_init 51 = .ok (.aload_n 0, 1) := by decide +kernel
theorem d_M_init_52 : decode b_M_init 52 = .ok (.bipush 24, 2) := by decide +kernel
theorem d_M_init_54 : decode b_M_init 54 = .ok (.newarray .int, 2) := by decide +kernel
theorem d_M_init_56 : decode b_M_init 56 = .ok (.putfield 29, 3) := by decide +kernel
theorem d_M_init_59 : decode b_M_init 59 = .ok (.aload_n 0, 1) := by decide +kernel
theorem d_M_init_60 : decode b_M_init 60 = .ok (.bipush 24, 2) := by decide +kernel
theorem d_M_init_62 : decode b_M_init 62 = .ok (.newarray .int, 2) := by decide +kernel
theorem d_M_init_64 : decode b_M_init 64 = .ok (.putfield 32, 3) := by decide +kernel
theorem d_M_init_67 : decode b_M_init 67 = .ok (.aload_n 0, 1) := by decide +kernel
theorem d_M_init_68 : decode b_M_init 68 = .ok (.bipush 24, 2) := by decide +kernel
theorem d_M_init_70 : decode b_M_init 70 = .ok (.newarray .int, 2) := by decide +kernel
theorem d_M_init_72 : decode b_M_init 72 = .ok (.putfield 35, 3) := by decide +kernel
theorem d_M_init_75 : decode b_M_init 75 = .ok (.aload_n 0, 1) := by decide +kernel
theorem d_M_init_76 : decode b_M_init 76 = .ok (.bipush 24, 2) := by decide +kernel
theorem d_M_init_78 : decode b_M_init 78 = .ok (.newarray .int, 2) := by decide +kernel
theorem d_M_init_80 : decode b_M_init 80 = .ok (.putfield 38, 3) := by decide +kernel
theorem d_M_init_83 : decode b_M_init 83 = .ok (.aload_n 0, 1) := by decide +kernel
theorem d_M_init_84 : decode b_M_init 84 = .ok (.sipush 144, 3) := by decide +kernel
theorem d_M_init_87 : decode b_M_init 87 = .ok (.newarray .int, 2) := by decide +kernel
theorem d_M_init_89 : decode b_M_init 89 = .ok (.putfield 41, 3) := by decide +kernel
theorem d_M_init_92 : decode b_M_init 92 = .ok (.aload_n 0, 1) := by decide +kernel
theorem d_M_init_93 : decode b_M_init 93 = .ok (.bipush 6, 2) := by decide +kernel
theorem d_M_init_95 : decode b_M_init 95 = .ok (.newarray .int, 2) := by decide +kernel
theorem d_M_init_97 : decode b_M_init 97 = .ok (.putfield 44, 3) := by decide +kernel
theorem d_M_init_100 : decode b_M_init 100 = .ok (.aload_n 0, 1) := by decide +kernel
theorem d_M_init_101 : decode b_M_init 101 = .ok (.bipush 20, 2) := by decide +kernel
theorem d_M_init_103 : decode b_M_init 103 = .ok (.newarray .int, 2) := by decide +kernel
theorem d_M_init_105 : decode b_M_init 105 = .ok (.putfield 47, 3) := by decide +kernel
theorem d_M_init_108 : decode b_M_init 108 = .ok (.aload_n 0, 1) := by decide +kernel
theorem d_M_init_109 : decode b_M_init 109 = .ok (.bipush 20, 2) := by decide +kernel
theorem d_M_init_111 : decode b_M_init 111 = .ok (.newarray .boolean, 2) := by decide +kernel
theorem d_M_init_113 : decode b_M_init 113 = .ok (.putfield 50, 3) := by decide +kernel
theorem d_M_init_116 : decode b_M_init 116 = .ok (.aload_n 0, 1) := by decide +kernel
theorem d_M_init_117 : decode b_M_init 117 = .ok (.bipush 20, 2) := by decide +kernel
theorem d_M_init_119 : decode b_M_init 119 = .ok (.newarray .boolean, 2) := by decide +kernel
theorem d_M_init_121 : decode b_M_init 121 = .ok (.putfield 54, 3) := by decide +kernel
theorem d_M_init_124 : decode b_M_init 124 = .ok (.aload_n 0, 1) := by decide +kernel
theorem d_M_init_125 : decode b_M_init 125 = .ok (.bipush 20, 2) := by decide +kernel
theorem d_M_init_127 : decode b_M_init 127 = .ok (.newarray .int, 2) := by decide +kernel
theorem d_M_init_129 : decode b_M_init 129 = .ok (.putfield 57, 3) := by decide +kernel
theorem d_M_init_132 : decode b_M_init 132 = .ok (.aload_n 0, 1) := by decide +kernel
theorem d_M_init_133 : decode b_M_init 133 = .ok (.bipush 20, 2) := by decide +kernel
theorem d_M_init_135 : decode b_M_init 135 = .ok (.newarray .int, 2) := by decide +kernel
theorem d_M_init_137 : decode b_M_init 137 = .ok (.putfield 60, 3) := by decide +kernel
theorem d_M_init_140 : decode b_M_init 140 = .ok (.aload_n 0, 1) := by decide +kernel
theorem d_M_init_141 : decode b_M_init 141 = .ok (.bipush 20, 2) := by decide +kernel
theorem d_M_init_143 : decode b_M_init 143 = .ok (.newarray .int, 2) := by decide +kernel
theorem d_M_init_145 : decode b_M_init 145 = .ok (.putfield 63, 3) := by decide +kernel
theorem d_M_init_148 : decode b_M_init 148 = .ok (.aload_n 0, 1) := by decide +kernel
theorem d_M_init_149 : decode b_M_init 149 = .ok (.bipush 20, 2) := by decide +kernel
theorem d_M_init_151 : decode b_M_init 151 = .ok (.newarray .int, 2) := by decide +kernel
theorem d_M_init_153 : decode b_M_init 153 = .ok (.putfield 66, 3) := by decide +kernel
theorem d_M_init_156 : decode b_M_init 156 = .ok (.aload_n 0, 1) := by decide +kernel
theorem d_M_init_157 : decode b_M_init 157 = .ok (.bipush 20, 2) := by decide +kernel
theorem d_M_init_159 : decode b_M_init 159 = .ok (.newarray .int, 2) := by decide +kernel
theorem d_M_init_161 : decode b_M_init 161 = .ok (.putfield 69, 3) := by decide +kernel
theorem d_M_init_164 : decode b_M_init 164 = .ok (.aload_n 0, 1) := by decide +kernel
theorem d_M_init_165 : decode b_M_init 165 = .ok (.bipush 20, 2) := by decide +kernel
theorem d_M_init_167 : decode b_M_init 167 = .ok (.newarray .int, 2) := by decide +kernel
theorem d_M_init_169 : decode b_M_init 169 = .ok (.putfield 72, 3) := by decide +kernel
theorem d_M_init_172 : decode b_M_init 172 = .ok (.aload_n 0, 1) := by decide +kernel
theorem d_M_init_173 : decode b_M_init 173 = .ok (.bipush 30, 2) := by decide +kernel
theorem d_M_init_175 : decode b_M_init 175 = .ok (.newarray .int, 2) := by decide +kernel
theorem d_M_init_177 : decode b_M_init 177 = .ok (.putfield 75, 3) := by decide +kernel
theorem d_M_init_180 : decode b_M_init 180 = .ok (.return_, 1) := by decide +kernel
theorem d_M_thrown_0 : decode b_M_thrown 0 = .ok (.aload_n 0, 1) := by decide +kernel
theorem d_M_thrown_1 : decode b_M_thrown 1 = .ok (.getfield 78, 3) := by decide +kernel
theorem d_M_thrown_4 : decode b_M_thrown 4 = .ok (.ireturn, 1) := by decide +kernel
theorem d_M_throwing_0 : decode b_M_throwing 0 = .ok (.aload_n 0, 1) := by decide +kernel
theorem d_M_throwing_1 : decode b_M_throwing 1 = .ok (.iload_n 1, 1) := by decide +kernel
theorem d_M_throwing_2 : decode b_M_throwing 2 = .ok (.ifCond .eq 7, 3) := by decide +kernel
theorem d_M_throwing_5 : decode b_M_throwing 5 = .ok (.iconst 1, 1) := by decide +kernel
theorem d_M_throwing_6 : decode b_M_throwing 6 = .ok (.goto 29, 3) := by decide +kernel
theorem d_M_throwing_9 : decode b_M_throwing 9 = .ok (.iload_n 2, 1) := by decide +kernel
theorem d_M_throwing_10 : decode b_M_throwing 10 = .ok (.ifCond .eq 7, 3) := by decide +kernel
theorem d_M_throwing_13 : decode b_M_throwing 13 = .ok (.iconst 2, 1) := by decide +kernel
theorem d_M_throwing_14 : decode b_M_throwing 14 = .ok (.goto 21, 3) := by decide +kernel
theorem d_M_throwing_17 : decode b_M_throwing 17 = .ok (.iload_n 3, 1) := by decide +kernel
theorem d_M_throwing_18 : decode b_M_throwing 18 = .ok (.ifCond .eq 7, 3) := by decide +kernel
theorem d_M_throwing_21 : decode b_M_throwing 21 = .ok (.iconst 3, 1) := by decide +kernel
theorem d_M_throwing_22 : decode b_M_throwing 22 = .ok (.goto 13, 3) := by decide +kernel
theorem d_M_throwing_25 : decode b_M_throwing 25 = .ok (.iload 4, 2) := by decide +kernel
theorem d_M_throwing_27 : decode b_M_throwing 27 = .ok (.ifCond .eq 7, 3) := by decide +kernel
theorem d_M_throwing_30 : decode b_M_throwing 30 = .ok (.iconst 4, 1) := by decide +kernel
theorem d_M_throwing_31 : decode b_M_throwing 31 = .ok (.goto 4, 3) := by decide +kernel
theorem d_M_throwing_34 : decode b_M_throwing 34 = .ok (.iconst 0, 1) := by decide +kernel
theorem d_M_throwing_35 : decode b_M_throwing 35 = .ok (.putfield 78, 3) := by decide +kernel
theorem d_M_throwing_38 : decode b_M_throwing 38 = .ok (.aload_n 0, 1) := by decide +kernel
theorem d_M_throwing_39 : decode b_M_throwing 39 = .ok (.getfield 78, 3) := by decide +kernel
theorem d_M_throwing_42 : decode b_M_throwing 42 = .ok (.ifCond .le 7, 3) := by decide +kernel
theorem d_M_throwing_45 : decode b_M_throwing 45 = .ok (.iconst 1, 1) := by decide +kernel
theorem d_M_throwing_46 : decode b_M_throwing 46 = .ok (.goto 4, 3) := by decide +kernel
theorem d_M_throwing_49 : decode b_M_throwing 49 = .ok (.iconst 0, 1) := by decide +kernel
theorem d_M_throwing_50 : decode b_M_throwing 50 = .ok (.ireturn, 1) := by decide +kernel
theorem d_M_in_0 : decode b_M_in 0 = .ok (.iload_n 0, 1) := by decide +kernel
theorem d_M_in_1 : decode b_M_in 1 = .ok (.iload_n 1, 1) := by decide +kernel
theorem d_M_in_2 : decode b_M_in 2 = .ok (.if_icmp .lt 12, 3) := by decide +kernel
theorem d_M_in_5 : decode b_M_in 5 = .ok (.iload_n 0, 1) := by decide +kernel
theorem d_M_in_6 : decode b_M_in 6 = .ok (.iload_n 2, 1) := by decide +kernel
theorem d_M_in_7 : decode b_M_in 7 = .ok (.if_icmp .gt 7, 3) := by decide +kernel
theorem d_M_in_10 : decode b_M_in 10 = .ok (.iconst 1, 1) := by decide +kernel
theorem d_M_in_11 : decode b_M_in 11 = .ok (.goto 4, 3) := by decide +kernel
theorem d_M_in_14 : decode b_M_in 14 = .ok (.iconst 0, 1) := by decide +kernel
theorem d_M_in_15 : decode b_M_in 15 = .ok (.ireturn, 1) := by decide +kernel
theorem d_M_isUnit_0 : decode b_M_isUnit 0 = .ok (.iload_n 1, 1) := by decide +kernel
theorem d_M_isUnit_1 : decode b_M_isUnit 1 = .ok (.iconst 0, 1) := by decide +kernel
theorem d_M_isUnit_2 : decode b_M_isUnit 2 = .ok (.aload_n 0, 1) := by decide +kernel
theorem d_M_isUnit_3 : decode b_M_isUnit 3 = .ok (.getfield 81, 3) := by decide +kernel
theorem d_M_isUnit_6 : decode b_M_isUnit 6 = .ok (.iconst 1, 1) := by decide +kernel
theorem d_M_isUnit_7 : decode b_M_isUnit 7 = .ok (.isub, 1) := by decide +kernel
theorem d_M_isUnit_8 : decode b_M_isUnit 8 = .ok (.invokestatic 84, 3) := by decide +kernel
theorem d_M_isUnit_11 : decode b_M_isUnit 11 = .ok (.ireturn, 1) := by decide +kernel
theorem d_M_isIncident_0 : decode b_M_isIncident 0 = .ok (.iload_n 1, 1) := by decide +kernel
theorem d_M_isIncident_1 : decode b_M_isIncident 1 = .ok (.iconst 0, 1) := by decide +kernel
theorem d_M_isIncident_2 : decode b_M_isIncident 2 = .ok (.aload_n 0, 1) := by decide +kernel
theorem d_M_isIncident_3 : decode b_M_isIncident 3 = .ok (.getfield 88, 3) := by decide +kernel
theorem d_M_isIncident_6 : decode b_M_isIncident 6 = .ok (.iconst 1, 1) := by decide +kernel
theorem d_M_isIncident_7 : decode b_M_isIncident 7 = .ok (.isub, 1) := by decide +kernel
theorem d_M_isIncident_8 : decode b_M_isIncident 8 = .ok (.invokestatic 84, 3) := by decide +kernel
theorem d_M_isIncident_11 : decode b_M_isIncident 11 = .ok (.ireturn, 1) := by decide +kernel
theorem d_M_isShut_0 : decode b_M_isShut 0 = .ok (.aload_n 0, 1) := by decide +kernel
theorem d_M_isShut_1 : decode b_M_isShut 1 = .ok (.iload_n 1, 1) := by decide +kernel
theorem d_M_isShut_2 : decode b_M_isShut 2 = .ok (.invokevirtual 91, 3) := by decide +kernel
theorem d_M_isShut_5 : decode b_M_isShut 5 = .ok (.ifCond .eq 16, 3) := by decide +kernel
theorem d_M_isShut_8 : decode b_M_isShut 8 = .ok (.aload_n 0, 1) := by decide +kernel
theorem d_M_isShut_9 : decode b_M_isShut 9 = .ok (.getfield 50, 3) := by decide +kernel
theorem d_M_isShut_12 : decode b_M_isShut 12 = .ok (.iload_n 1, 1) := by decide +kernel
theorem d_M_isShut_13 : decode b_M_isShut 13 = .ok (.baload, 1) := by decide +kernel
theorem d_M_isShut_14 : decode b_M_isShut 14 = .ok (.ifCond .ne 7, 3) := by decide +kernel
theorem d_M_isShut_17 : decode b_M_isShut 17 = .ok (.iconst 1, 1) := by decide +kernel
theorem d_M_isShut_18 : decode b_M_isShut 18 = .ok (.goto 4, 3) := by decide +kernel
theorem d_M_isShut_21 : decode b_M_isShut 21 = .ok (.iconst 0, 1) := by decide +kernel
theorem d_M_isShut_22 : decode b_M_isShut 22 = .ok (.ireturn, 1) := by decide +kernel
theorem d_M_isGood_0 : decode b_M_isGood 0 = .ok (.iload_n 0, 1) := by decide +kernel
theorem d_M_isGood_1 : decode b_M_isGood 1 = .ok (.iconst 0, 1) := by decide +kernel
theorem d_M_isGood_2 : decode b_M_isGood 2 = .ok (.iconst 5, 1) := by decide +kernel
theorem d_M_isGood_3 : decode b_M_isGood 3 = .ok (.invokestatic 84, 3) := by decide +kernel
theorem d_M_isGood_6 : decode b_M_isGood 6 = .ok (.ireturn, 1) := by decide +kernel
theorem d_M_unit_0 : decode b_M_unit 0 = .ok (.iload_n 1, 1) := by decide +kernel
theorem d_M_unit_1 : decode b_M_unit 1 = .ok (.iconst 0, 1) := by decide +kernel
theorem d_M_unit_2 : decode b_M_unit 2 = .ok (.ldc 95, 2) := by decide +kernel
theorem d_M_unit_4 : decode b_M_unit 4 = .ok (.invokestatic 84, 3) := by decide +kernel
theorem d_M_unit_7 : decode b_M_unit 7 = .ok (.ifCond .eq 37, 3) := by decide +kernel
theorem d_M_unit_10 : decode b_M_unit 10 = .ok (.iload_n 2, 1) := by decide +kernel
theorem d_M_unit_11 : decode b_M_unit 11 = .ok (.iconst 0, 1) := by decide +kernel
theorem d_M_unit_12 : decode b_M_unit 12 = .ok (.sipush 10000, 3) := by decide +kernel
theorem d_M_unit_15 : decode b_M_unit 15 = .ok (.invokestatic 84, 3) := by decide +kernel
theorem d_M_unit_18 : decode b_M_unit 18 = .ok (.ifCond .eq 26, 3) := by decide +kernel
theorem d_M_unit_21 : decode b_M_unit 21 = .ok (.iload_n 3, 1) := by decide +kernel
theorem d_M_unit_22 : decode b_M_unit 22 = .ok (.iconst 0, 1) := by decide +kernel
theorem d_M_unit_23 : decode b_M_unit 23 = .ok (.sipush 10000, 3) := by decide +kernel
theorem d_M_unit_26 : decode b_M_unit 26 = .ok (.invokestatic 84, 3) := by decide +kernel
theorem d_M_unit_29 : decode b_M_unit 29 = .ok (.ifCond .eq 15, 3) := by decide +kernel
theorem d_M_unit_32 : decode b_M_unit 32 = .ok (.iload 4, 2) := by decide +kernel
theorem d_M_unit_34 : decode b_M_unit 34 = .ok (.iconst 0, 1) := by decide +kernel
theorem d_M_unit_35 : decode b_M_unit 35 = .ok (.sipush 255, 3) := by decide +kernel
theorem d_M_unit_38 : decode b_M_unit 38 = .ok (.invokestatic 84, 3) := by decide +kernel
theorem d_M_unit_41 : decode b_M_unit 41 = .ok (.ifCond .ne 7, 3) := by decide +kernel
theorem d_M_unit_44 : decode b_M_unit 44 = .ok (.iconst 1, 1) := by decide +kernel
theorem d_M_unit_45 : decode b_M_unit 45 = .ok (.goto 4, 3) := by decide +kernel
theorem d_M_unit_48 : decode b_M_unit 48 = .ok (.iconst 0, 1) := by decide +kernel
theorem d_M_unit_49 : decode b_M_unit 49 = .ok (.istore 5, 2) := by decide +kernel
theorem d_M_unit_51 : decode b_M_unit 51 = .ok (.aload_n 0, 1) := by decide +kernel
theorem d_M_unit_52 : decode b_M_unit 52 = .ok (.iload 5, 2) := by decide +kernel
theorem d_M_unit_54 : decode b_M_unit 54 = .ok (.aload_n 0, 1) := by decide +kernel
theorem d_M_unit_55 : decode b_M_unit 55 = .ok (.getfield 81, 3) := by decide +kernel
theorem d_M_unit_58 : decode b_M_unit 58 = .ok (.bipush 24, 2) := by decide +kernel
theorem d_M_unit_60 : decode b_M_unit 60 = .ok (.if_icmp .ne 7, 3) := by decide +kernel
theorem d_M_unit_63 : decode b_M_unit 63 = .ok (.iconst 1, 1) := by decide +kernel
theorem d_M_unit_64 : decode b_M_unit 64 = .ok (.goto 4, 3) := by decide +kernel
theorem d_M_unit_67 : decode b_M_unit 67 = .ok (.iconst 0, 1) := by decide +kernel
theorem d_M_unit_68 : decode b_M_unit 68 = .ok (.iconst 0, 1) := by decide +kernel
theorem d_M_unit_69 : decode b_M_unit 69 = .ok (.iconst 0, 1) := by decide +kernel
theorem d_M_unit_70 : decode b_M_unit 70 = .ok (.invokevirtual 96, 3) := by decide +kernel
theorem d_M_unit_73 : decode b_M_unit 73 = .ok (.ifCond .eq 5, 3) := by decide +kernel
theorem d_M_unit_76 : decode b_M_unit 76 = .ok (.iconst 0, 1) := by decide +kernel
theorem d_M_unit_77 : decode b_M_unit 77 = .ok (.ireturn, 1) := by decide +kernel
theorem d_M_unit_78 : decode b_M_unit 78 = .ok (.aload_n 0, 1) := by decide +kernel
theorem d_M_unit_79 : decode b_M_unit 79 = .ok (.getfield 13, 3) := by decide +kernel
theorem d_M_unit_82 : decode b_M_unit 82 = .ok (.aload_n 0, 1) := by decide +kernel
theorem d_M_unit_83 : decode b_M_unit 83 = .ok (.getfield 81, 3) := by decide +kernel
theorem d_M_unit_86 : decode b_M_unit 86 = .ok (.iload_n 1, 1) := by decide +kernel
theorem d_M_unit_87 : decode b_M_unit 87 = .ok (.iastore, 1) := by decide +kernel
theorem d_M_unit_88 : decode b_M_unit 88 = .ok (.aload_n 0, 1) := by decide +kernel
theorem d_M_unit_89 : decode b_M_unit 89 = .ok (.getfield 17, 3) := by decide +kernel
theorem d_M_unit_92 : decode b_M_unit 92 = .ok (.aload_n 0, 1) := by decide +kernel
theorem d_M_unit_93 : decode b_M_unit 93 = .ok (.getfield 81, 3) := by decide +kernel
theorem d_M_unit_96 : decode b_M_unit 96 = .ok (.iload_n 2, 1) := by decide +kernel
theorem d_M_unit_97 : decode b_M_unit 97 = .ok (.iastore, 1) := by decide +kernel
theorem d_M_unit_98 : decode b_M_unit 98 = .ok (.aload_n 0, 1) := by decide +kernel
theorem d_M_unit_99 : decode b_M_unit 99 = .ok (.getfield 20, 3) := by decide +kernel
theorem d_M_unit_102 : decode b_M_unit 102 = .ok (.aload_n 0, 1) := by decide +kernel
theorem d_M_unit_103 : decode b_M_unit 103 = .ok (.getfield 81, 3) := by decide +kernel
theorem d_M_unit_106 : decode b_M_unit 106 = .ok (.iload_n 3, 1) := by decide +kernel
theorem d_M_unit_107 : decode b_M_unit 107 = .ok (.iastore, 1) := by decide +kernel
theorem d_M_unit_108 : decode b_M_unit 108 = .ok (.aload_n 0, 1) := by decide +kernel
theorem d_M_unit_109 : decode b_M_unit 109 = .ok (.getfield 23, 3) := by decide +kernel
theorem d_M_unit_112 : decode b_M_unit 112 = .ok (.aload_n 0, 1) := by decide +kernel
theorem d_M_unit_113 : decode b_M_unit 113 = .ok (.getfield 81, 3) := by decide +kernel
theorem d_M_unit_116 : decode b_M_unit 116 = .ok (.iload 4, 2) := by decide +kernel
theorem d_M_unit_118 : decode b_M_unit 118 = .ok (.iastore, 1) := by decide +kernel
theorem d_M_unit_119 : decode b_M_unit 119 = .ok (.aload_n 0, 1) := by decide +kernel
theorem d_M_unit_120 : decode b_M_unit 120 = .ok (.getfield 29, 3) := by decide +kernel
theorem d_M_unit_123 : decode b_M_unit 123 = .ok (.aload_n 0, 1) := by decide +kernel
theorem d_M_unit_124 : decode b_M_unit 124 = .ok (.getfield 81, 3) := by decide +kernel
theorem d_M_unit_127 : decode b_M_unit 127 = .ok (.iconst (-1), 1) := by decide +kernel
theorem d_M_unit_128 : decode b_M_unit 128 = .ok (.iastore, 1) := by decide +kernel
theorem d_M_unit_129 : decode b_M_unit 129 = .ok (.aload_n 0, 1) := by decide +kernel
theorem d_M_unit_130 : decode b_M_unit 130 = .ok (.getfield 32, 3) := by decide +kernel
theorem d_M_unit_133 : decode b_M_unit 133 = .ok (.aload_n 0, 1) := by decide +kernel
theorem d_M_unit_134 : decode b_M_unit 134 = .ok (.getfield 81, 3) := by decide +kernel
theorem d_M_unit_137 : decode b_M_unit 137 = .ok (.aload_n 0, 1) := by decide +kernel
theorem d_M_unit_138 : decode b_M_unit 138 = .ok (.getfield 100, 3) := by decide +kernel
theorem d_M_unit_141 : decode b_M_unit 141 = .ok (.iastore, 1) := by decide +kernel
theorem d_M_unit_142 : decode b_M_unit 142 = .ok (.aload_n 0, 1) := by decide +kernel
theorem d_M_unit_143 : decode b_M_unit 143 = .ok (.dup, 1) := by decide +kernel
theorem d_M_unit_144 : decode b_M_unit 144 = .ok (.getfield 81, 3) := by decide +kernel
theorem d_M_unit_147 : decode b_M_unit 147 = .ok (.iconst 1, 1) := by decide +kernel
theorem d_M_unit_148 : decode b_M_unit 148 = .ok (.iadd, 1) := by decide +kernel
theorem d_M_unit_149 : decode b_M_unit 149 = .ok (.putfield 81, 3) := by decide +kernel
theorem d_M_unit_152 : decode b_M_unit 152 = .ok (.aload_n 0, 1) := by decide +kernel
theorem d_M_unit_153 : decode b_M_unit 153 = .ok (.invokevirtual 103, 3) := by decide +kernel
theorem d_M_unit_156 : decode b_M_unit 156 = .ok (.pop, 1) := by decide +kernel
theorem d_M_unit_157 : decode b_M_unit 157 = .ok (.aload_n 0, 1) := by decide +kernel
theorem d_M_unit_158 : decode b_M_unit 158 = .ok (.getfield 81, 3) := by decide +kernel
theorem d_M_unit_161 : decode b_M_unit 161 = .ok (.iconst 1, 1) := by decide +kernel
theorem d_M_unit_162 : decode b_M_unit 162 = .ok (.isub, 1) := by decide +kernel
theorem d_M_unit_163 : decode b_M_unit 163 = .ok (.ireturn, 1) := by decide +kernel
theorem d_M_home_0 : decode b_M_home 0 = .ok (.aload_n 0, 1) := by decide +kernel
theorem d_M_home_1 : decode b_M_home 1 = .ok (.aload_n 0, 1) := by decide +kernel
theorem d_M_home_2 : decode b_M_home 2 = .ok (.iload_n 1, 1) := by decide +kernel
theorem d_M_home_3 : decode b_M_home 3 = .ok (.invokevirtual 107, 3) := by decide +kernel
theorem d_M_home_6 : decode b_M_home 6 = .ok (.ifCond .ne 7, 3) := by decide +kernel
theorem d_M_home_9 : decode b_M_home 9 = .ok (.iconst 1, 1) := by decide +kernel
theorem d_M_home_10 : decode b_M_home 10 = .ok (.goto 4, 3) := by decide +kernel
theorem d_M_home_13 : decode b_M_home 13 = .ok (.iconst 0, 1) := by decide +kernel
theorem d_M_home_14 : decode b_M_home 14 = .ok (.iload_n 2, 1) := by decide +kernel
theorem d_M_home_15 : decode b_M_home 15 = .ok (.iconst 0, 1) := by decide +kernel
theorem d_M_home_16 : decode b_M_home 16 = .ok (.ldc 95, 2) := by decide +kernel
theorem d_M_home_18 : decode b_M_home 18 = .ok (.invokestatic 84, 3) := by decide +kernel
theorem d_M_home_21 : decode b_M_home 21 = .ok (.ifCond .ne 7, 3) := by decide +kernel
theorem d_M_home_24 : decode b_M_home 24 = .ok (.iconst 1, 1) := by decide +kernel
theorem d_M_home_25 : decode b_M_home 25 = .ok (.goto 4, 3) := by decide +kernel
theorem d_M_home_28 : decode b_M_home 28 = .ok (.iconst 0, 1) := by decide +kernel
theorem d_M_home_29 : decode b_M_home 29 = .ok (.iconst 0, 1) := by decide +kernel
theorem d_M_home_30 : decode b_M_home 30 = .ok (.iconst 0, 1) := by decide +kernel
theorem d_M_home_31 : decode b_M_home 31 = .ok (.invokevirtual 96, 3) := by decide +kernel
theorem d_M_home_34 : decode b_M_home 34 = .ok (.ifCond .eq 4, 3) := by decide +kernel
theorem d_M_home_37 : decode b_M_home 37 = .ok (.return_, 1) := by decide +kernel
theorem d_M_home_38 : decode b_M_home 38 = .ok (.aload_n 0, 1) := by decide +kernel
theorem d_M_home_39 : decode b_M_home 39 = .ok (.getfield 13, 3) := by decide +kernel
theorem d_M_home_42 : decode b_M_home 42 = .ok (.iload_n 1, 1) := by decide +kernel
theorem d_M_home_43 : decode b_M_home 43 = .ok (.iload_n 2, 1) := by decide +kernel
theorem d_M_home_44 : decode b_M_home 44 = .ok (.iastore, 1) := by decide +kernel
theorem d_M_home_45 : decode b_M_home 45 = .ok (.return_, 1) := by decide +kernel
theorem d_M_span_0 : decode b_M_span 0 = .ok (.aload_n 0, 1) := by decide +kernel
theorem d_M_span_1 : decode b_M_span 1 = .ok (.iload_n 1, 1) := by decide +kernel
theorem d_M_span_2 : decode b_M_span 2 = .ok (.iconst 0, 1) := by decide +kernel
theorem d_M_span_3 : decode b_M_span 3 = .ok (.ldc 110, 2) := by decide +kernel
theorem d_M_span_5 : decode b_M_span 5 = .ok (.invokestatic 84, 3) := by decide +kernel
theorem d_M_span_8 : decode b_M_span 8 = .ok (.ifCond .ne 7, 3) := by decide +kernel
theorem d_M_span_11 : decode b_M_span 11 = .ok (.iconst 1, 1) := by decide +kernel
theorem d_M_span_12 : decode b_M_span 12 = .ok (.goto 4, 3) := by decide +kernel
theorem d_M_span_15 : decode b_M_span 15 = .ok (.iconst 0, 1) := by decide +kernel
theorem d_M_span_16 : decode b_M_span 16 = .ok (.iconst 0, 1) := by decide +kernel
theorem d_M_span_17 : decode b_M_span 17 = .ok (.iconst 0, 1) := by decide +kernel
theorem d_M_span_18 : decode b_M_span 18 = .ok (.iconst 0, 1) := by decide +kernel
theorem d_M_span_19 : decode b_M_span 19 = .ok (.invokevirtual 96, 3) := by decide +kernel
theorem d_M_span_22 : decode b_M_span 22 = .ok (.ifCond .eq 4, 3) := by decide +kernel
theorem d_M_span_25 : decode b_M_span 25 = .ok (.return_, 1) := by decide +kernel
theorem d_M_span_26 : decode b_M_span 26 = .ok (.aload_n 0, 1) := by decide +kernel
theorem d_M_span_27 : decode b_M_span 27 = .ok (.iload_n 1, 1) := by decide +kernel
theorem d_M_span_28 : decode b_M_span 28 = .ok (.putfield 7, 3) := by decide +kernel
theorem d_M_span_31 : decode b_M_span 31 = .ok (.return_, 1) := by decide +kernel
theorem d_M_become_0 : decode b_M_become 0 = .ok (.aload_n 0, 1) := by decide +kernel
theorem d_M_become_1 : decode b_M_become 1 = .ok (.getfield 26, 3) := by decide +kernel
theorem d_M_become_4 : decode b_M_become 4 = .ok (.iload_n 1, 1) := by decide +kernel
theorem d_M_become_5 : decode b_M_become 5 = .ok (.iload_n 2, 1) := by decide +kernel
theorem d_M_become_6 : decode b_M_become 6 = .ok (.iastore, 1) := by decide +kernel
theorem d_M_become_7 : decode b_M_become 7 = .ok (.aload_n 0, 1) := by decide +kernel
theorem d_M_become_8 : decode b_M_become 8 = .ok (.getfield 29, 3) := by decide +kernel
theorem d_M_become_11 : decode b_M_become 11 = .ok (.iload_n 1, 1) := by decide +kernel
theorem d_M_become_12 : decode b_M_become 12 = .ok (.iload_n 3, 1) := by decide +kernel
theorem d_M_become_13 : decode b_M_become 13 = .ok (.iastore, 1) := by decide +kernel
theorem d_M_become_14 : decode b_M_become 14 = .ok (.aload_n 0, 1) := by decide +kernel
theorem d_M_become_15 : decode b_M_become 15 = .ok (.getfield 32, 3) := by decide +kernel
theorem d_M_become_18 : decode b_M_become 18 = .ok (.iload_n 1, 1) := by decide +kernel
theorem d_M_become_19 : decode b_M_become 19 = .ok (.aload_n 0, 1) := by decide +kernel
theorem d_M_become_20 : decode b_M_become 20 = .ok (.getfield 100, 3) := by decide +kernel
theorem d_M_become_23 : decode b_M_become 23 = .ok (.iastore, 1) := by decide +kernel
theorem d_M_become_24 : decode b_M_become 24 = .ok (.return_, 1) := by decide +kernel
theorem d_M_hasStock_0 : decode b_M_hasStock 0 = .ok (.iconst 1, 1) := by decide +kernel
theorem d_M_hasStock_1 : decode b_M_hasStock 1 = .ok (.istore_n 2, 1) := by decide +kernel
theorem d_M_hasStock_2 : decode b_M_hasStock 2 = .ok (.iconst 0, 1) := by decide +kernel
theorem d_M_hasStock_3 : decode b_M_hasStock 3 = .ok (.istore_n 3, 1) := by decide +kernel
theorem d_M_hasStock_4 : decode b_M_hasStock 4 = .ok (.iload_n 3, 1) := by decide +kernel
theorem d_M_hasStock_5 : decode b_M_hasStock 5 = .ok (.bipush 6, 2) := by decide +kernel
theorem d_M_hasStock_7 : decode b_M_hasStock 7 = .ok (.if_icmp .ge 39, 3) := by decide +kernel
theorem d_M_hasStock_10 : decode b_M_hasStock 10 = .ok (.iload_n 2, 1) := by decide +kernel
theorem d_M_hasStock_11 : decode b_M_hasStock 11 = .ok (.ifCond .eq 27, 3) := by decide +kernel
theorem d_M_hasStock_14 : decode b_M_hasStock 14 = .ok (.aload_n 0, 1) := by decide +kernel
theorem d_M_hasStock_15 : decode b_M_hasStock 15 = .ok (.getfield 44, 3) := by decide +kernel
theorem d_M_hasStock_18 : decode b_M_hasStock 18 = .ok (.iload_n 3, 1) := by decide +kernel
theorem d_M_hasStock_19 : decode b_M_hasStock 19 = .ok (.iaload, 1) := by decide +kernel
theorem d_M_hasStock_20 : decode b_M_hasStock 20 = .ok (.aload_n 0, 1) := by decide +kernel
theorem d_M_hasStock_21 : decode b_M_hasStock 21 = .ok (.getfield 41, 3) := by decide +kernel
theorem d_M_hasStock_24 : decode b_M_hasStock 24 = .ok (.bipush 6, 2) := by decide +kernel
theorem d_M_hasStock_26 : decode b_M_hasStock 26 = .ok (.iload_n 1, 1) := by decide +kernel
theorem d_M_hasStock_27 : decode b_M_hasStock 27 = .ok (.imul, 1) := by decide +kernel
theorem d_M_hasStock_28 : decode b_M_hasStock 28 = .ok (.iload_n 3, 1) := by decide +kernel
theorem d_M_hasStock_29 : decode b_M_hasStock 29 = .ok (.iadd, 1) := by decide +kernel
theorem d_M_hasStock_30 : decode b_M_hasStock 30 = .ok (.iaload, 1) := by decide +kernel
theorem d_M_hasStock_31 : decode b_M_hasStock 31 = .ok (.if_icmp .lt 7, 3) := by decide +kernel
theorem d_M_hasStock_34 : decode b_M_hasStock 34 = .ok (.iconst 1, 1) := by decide +kernel
theorem d_M_hasStock_35 : decode b_M_hasStock 35 = .ok (.goto 4, 3) := by decide +kernel
theorem d_M_hasStock_38 : decode b_M_hasStock 38 = .ok (.iconst 0, 1) := by decide +kernel
theorem d_M_hasStock_39 : decode b_M_hasStock 39 = .ok (.istore_n 2, 1) := by decide +kernel
theorem d_M_hasStock_40 : decode b_M_hasStock 40 = .ok (.iinc 3 1, 3) := by decide +kernel
theorem d_M_hasStock_43 : decode b_M_hasStock 43 = .ok (.goto (-39), 3) := by decide +kernel
theorem d_M_hasStock_46 : decode b_M_hasStock 46 = .ok (.iload_n 2, 1) := by decide +kernel
theorem d_M_hasStock_47 : decode b_M_hasStock 47 = .ok (.ireturn, 1) := by decide +kernel
theorem d_M_goesOn_0 : decode b_M_goesOn 0 = .ok (.aload_n 0, 1) := by decide +kernel
theorem d_M_goesOn_1 : decode b_M_goesOn 1 = .ok (.getfield 26, 3) := by decide +kernel
theorem d_M_goesOn_4 : decode b_M_goesOn 4 = .ok (.iload_n 1, 1) := by decide +kernel
theorem d_M_goesOn_5 : decode b_M_goesOn 5 = .ok (.iaload, 1) := by decide +kernel
theorem d_M_goesOn_6 : decode b_M_goesOn 6 = .ok (.iconst 3, 1) := by decide +kernel
theorem d_M_goesOn_7 : decode b_M_goesOn 7 = .ok (.if_icmp .ne 32, 3) := by decide +kernel
theorem d_M_goesOn_10 : decode b_M_goesOn 10 = .ok (.aload_n 0, 1) := by decide +kernel
theorem d_M_goesOn_11 : decode b_M_goesOn 11 = .ok (.getfield 100, 3) := by decide +kernel
theorem d_M_goesOn_14 : decode b_M_goesOn 14 = .ok (.aload_n 0, 1) := by decide +kernel
theorem d_M_goesOn_15 : decode b_M_goesOn 15 = .ok (.getfield 32, 3) := by decide +kernel
theorem d_M_goesOn_18 : decode b_M_goesOn 18 = .ok (.iload_n 1, 1) := by decide +kernel
theorem d_M_goesOn_19 : decode b_M_goesOn 19 = .ok (.iaload, 1) := by decide +kernel
theorem d_M_goesOn_20 : decode b_M_goesOn 20 = .ok (.aload_n 0, 1) := by decide +kernel
theorem d_M_goesOn_21 : decode b_M_goesOn 21 = .ok (.getfield 17, 3) := by decide +kernel
theorem d_M_goesOn_24 : decode b_M_goesOn 24 = .ok (.iload_n 1, 1) := by decide +kernel
theorem d_M_goesOn_25 : decode b_M_goesOn 25 = .ok (.iaload, 1) := by decide +kernel
theorem d_M_goesOn_26 : decode b_M_goesOn 26 = .ok (.iadd, 1) := by decide +kernel
theorem d_M_goesOn_27 : decode b_M_goesOn 27 = .ok (.if_icmp .lt 12, 3) := by decide +kernel
theorem d_M_goesOn_30 : decode b_M_goesOn 30 = .ok (.aload_n 0, 1) := by decide +kernel
theorem d_M_goesOn_31 : decode b_M_goesOn 31 = .ok (.iload_n 1, 1) := by decide +kernel
theorem d_M_goesOn_32 : decode b_M_goesOn 32 = .ok (.iconst 4, 1) := by decide +kernel
theorem d_M_goesOn_33 : decode b_M_goesOn 33 = .ok (.iconst (-1), 1) := by decide +kernel
theorem d_M_goesOn_34 : decode b_M_goesOn 34 = .ok (.invokevirtual 111, 3) := by decide +kernel
theorem d_M_goesOn_37 : decode b_M_goesOn 37 = .ok (.iconst 1, 1) := by decide +kernel
theorem d_M_goesOn_38 : decode b_M_goesOn 38 = .ok (.ireturn, 1) := by decide +kernel
theorem d_M_goesOn_39 : decode b_M_goesOn 39 = .ok (.aload_n 0, 1) := by decide +kernel
theorem d_M_goesOn_40 : decode b_M_goesOn 40 = .ok (.getfield 26, 3) := by decide +kernel
theorem d_M_goesOn_43 : decode b_M_goesOn 43 = .ok (.iload_n 1, 1) := by decide +kernel
theorem d_M_goesOn_44 : decode b_M_goesOn 44 = .ok (.iaload, 1) := by decide +kernel
theorem d_M_goesOn_45 : decode b_M_goesOn 45 = .ok (.iconst 4, 1) := by decide +kernel
theorem d_M_goesOn_46 : decode b_M_goesOn 46 = .ok (.if_icmp .ne 93, 3) := by decide +kernel
theorem d_M_goesOn_49 : decode b_M_goesOn 49 = .ok (.aload_n 0, 1) := by decide +kernel
theorem d_M_goesOn_50 : decode b_M_goesOn 50 = .ok (.getfield 100, 3) := by decide +kernel
theorem d_M_goesOn_53 : decode b_M_goesOn 53 = .ok (.aload_n 0, 1) := by decide +kernel
theorem d_M_goesOn_54 : decode b_M_goesOn 54 = .ok (.getfield 32, 3) := by decide +kernel
theorem d_M_goesOn_57 : decode b_M_goesOn 57 = .ok (.iload_n 1, 1) := by decide +kernel
theorem d_M_goesOn_58 : decode b_M_goesOn 58 = .ok (.iaload, 1) := by decide +kernel
theorem d_M_goesOn_59 : decode b_M_goesOn 59 = .ok (.aload_n 0, 1) := by decide +kernel
theorem d_M_goesOn_60 : decode b_M_goesOn 60 = .ok (.getfield 20, 3) := by decide +kernel
theorem d_M_goesOn_63 : decode b_M_goesOn 63 = .ok (.iload_n 1, 1) := by decide +kernel
theorem d_M_goesOn_64 : decode b_M_goesOn 64 = .ok (.iaload, 1) := by decide +kernel
theorem d_M_goesOn_65 : decode b_M_goesOn 65 = .ok (.iadd, 1) := by decide +kernel
theorem d_M_goesOn_66 : decode b_M_goesOn 66 = .ok (.if_icmp .lt 73, 3) := by decide +kernel
theorem d_M_goesOn_69 : decode b_M_goesOn 69 = .ok (.aload_n 0, 1) := by decide +kernel
theorem d_M_goesOn_70 : decode b_M_goesOn 70 = .ok (.iload_n 1, 1) := by decide +kernel
theorem d_M_goesOn_71 : decode b_M_goesOn 71 = .ok (.invokevirtual 115, 3) := by decide +kernel
theorem d_M_goesOn_74 : decode b_M_goesOn 74 = .ok (.ifCond .eq 65, 3) := by decide +kernel
theorem d_M_goesOn_77 : decode b_M_goesOn 77 = .ok (.iconst 0, 1) := by decide +kernel
theorem d_M_goesOn_78 : decode b_M_goesOn 78 = .ok (.istore_n 2, 1) := by decide +kernel
theorem d_M_goesOn_79 : decode b_M_goesOn 79 = .ok (.iload_n 2, 1) := by decide +kernel
theorem d_M_goesOn_80 : decode b_M_goesOn 80 = .ok (.bipush 6, 2) := by decide +kernel
theorem d_M_goesOn_82 : decode b_M_goesOn 82 = .ok (.if_icmp .ge 41, 3) := by decide +kernel
theorem d_M_goesOn_85 : decode b_M_goesOn 85 = .ok (.aload_n 0, 1) := by decide +kernel
theorem d_M_goesOn_86 : decode b_M_goesOn 86 = .ok (.getfield 44, 3) := by decide +kernel
theorem d_M_goesOn_89 : decode b_M_goesOn 89 = .ok (.iload_n 2, 1) := by decide +kernel
theorem d_M_goesOn_90 : decode b_M_goesOn 90 = .ok (.dup2, 1) := by decide +kernel
theorem d_M_goesOn_91 : decode b_M_goesOn 91 = .ok (.iaload, 1) := by decide +kernel
theorem d_M_goesOn_92 : decode b_M_goesOn 92 = .ok (.aload_n 0, 1) := by decide +kernel
theorem d_M_goesOn_93 : decode b_M_goesOn 93 = .ok (.getfield 41, 3) := by decide +kernel
theorem d_M_goesOn_96 : decode b_M_goesOn 96 = .ok (.bipush 6, 2) := by decide +kernel
theorem d_M_goesOn_98 : decode b_M_goesOn 98 = .ok (.iload_n 1, 1) := by decide +kernel
theorem d_M_goesOn_99 : decode b_M_goesOn 99 = .ok (.imul, 1) := by decide +kernel
theorem d_M_goesOn_100 : decode b_M_goesOn 100 = .ok (.iload_n 2, 1) := by decide +kernel
theorem d_M_goesOn_101 : decode b_M_goesOn 101 = .ok (.iadd, 1) := by decide +kernel
theorem d_M_goesOn_102 : decode b_M_goesOn 102 = .ok (.iaload, 1) := by decide +kernel
theorem d_M_goesOn_103 : decode b_M_goesOn 103 = .ok (.isub, 1) := by decide +kernel
theorem d_M_goesOn_104 : decode b_M_goesOn 104 = .ok (.iastore, 1) := by decide +kernel
theorem d_M_goesOn_105 : decode b_M_goesOn 105 = .ok (.aload_n 0, 1) := by decide +kernel
theorem d_M_goesOn_106 : decode b_M_goesOn 106 = .ok (.getfield 41, 3) := by decide +kernel
theorem d_M_goesOn_109 : decode b_M_goesOn 109 = .ok (.bipush 6, 2) := by decide +kernel
theorem d_M_goesOn_111 : decode b_M_goesOn 111 = .ok (.iload_n 1, 1) := by decide +kernel
theorem d_M_goesOn_112 : decode b_M_goesOn 112 = .ok (.imul, 1) := by decide +kernel
theorem d_M_goesOn_113 : decode b_M_goesOn 113 = .ok (.iload_n 2, 1) := by decide +kernel
theorem d_M_goesOn_114 : decode b_M_goesOn 114 = .ok (.iadd, 1) := by decide +kernel
theorem d_M_goesOn_115 : decode b_M_goesOn 115 = .ok (.iconst 0, 1) := by decide +kernel
theorem d_M_goesOn_116 : decode b_M_goesOn 116 = .ok (.iastore, 1) := by decide +kernel
theorem d_M_goesOn_117 : decode b_M_goesOn 117 = .ok (.iinc 2 1, 3) := by decide +kernel
theorem d_M_goesOn_120 : decode b_M_goesOn 120 = .ok (.goto (-41), 3) := by decide +kernel
theorem d_M_goesOn_123 : decode b_M_goesOn 123 = .ok (.aload_n 0, 1) := by decide +kernel
theorem d_M_goesOn_124 : decode b_M_goesOn 124 = .ok (.getfield 35, 3) := by decide +kernel
theorem d_M_goesOn_127 : decode b_M_goesOn 127 = .ok (.iload_n 1, 1) := by decide +kernel
theorem d_M_goesOn_128 : decode b_M_goesOn 128 = .ok (.iconst 0, 1) := by decide +kernel
theorem d_M_goesOn_129 : decode b_M_goesOn 129 = .ok (.iastore, 1) := by decide +kernel
theorem d_M_goesOn_130 : decode b_M_goesOn 130 = .ok (.aload_n 0, 1) := by decide +kernel
theorem d_M_goesOn_131 : decode b_M_goesOn 131 = .ok (.iload_n 1, 1) := by decide +kernel
theorem d_M_goesOn_132 : decode b_M_goesOn 132 = .ok (.iconst 5, 1) := by decide +kernel
theorem d_M_goesOn_133 : decode b_M_goesOn 133 = .ok (.iconst (-1), 1) := by decide +kernel
theorem d_M_goesOn_134 : decode b_M_goesOn 134 = .ok (.invokevirtual 111, 3) := by decide +kernel
theorem d_M_goesOn_137 : decode b_M_goesOn 137 = .ok (.iconst 1, 1) := by decide +kernel
theorem d_M_goesOn_138 : decode b_M_goesOn 138 = .ok (.ireturn, 1) := by decide +kernel
theorem d_M_goesOn_139 : decode b_M_goesOn 139 = .ok (.aload_n 0, 1) := by decide +kernel
theorem d_M_goesOn_140 : decode b_M_goesOn 140 = .ok (.getfield 26, 3) := by decide +kernel
theorem d_M_goesOn_143 : decode b_M_goesOn 143 = .ok (.iload_n 1, 1) := by decide +kernel
theorem d_M_goesOn_144 : decode b_M_goesOn 144 = .ok (.iaload, 1) := by decide +kernel
theorem d_M_goesOn_145 : decode b_M_goesOn 145 = .ok (.iconst 5, 1) := by decide +kernel
theorem d_M_goesOn_146 : decode b_M_goesOn 146 = .ok (.if_icmp .ne 34, 3) := by decide +kernel
theorem d_M_goesOn_149 : decode b_M_goesOn 149 = .ok (.aload_n 0, 1) := by decide +kernel
theorem d_M_goesOn_150 : decode b_M_goesOn 150 = .ok (.getfield 35, 3) := by decide +kernel
theorem d_M_goesOn_153 : decode b_M_goesOn 153 = .ok (.iload_n 1, 1) := by decide +kernel
theorem d_M_goesOn_154 : decode b_M_goesOn 154 = .ok (.iaload, 1) := by decide +kernel
theorem d_M_goesOn_155 : decode b_M_goesOn 155 = .ok (.aload_n 0, 1) := by decide +kernel
theorem d_M_goesOn_156 : decode b_M_goesOn 156 = .ok (.getfield 23, 3) := by decide +kernel
theorem d_M_goesOn_159 : decode b_M_goesOn 159 = .ok (.iload_n 1, 1) := by decide +kernel
theorem d_M_goesOn_160 : decode b_M_goesOn 160 = .ok (.iaload, 1) := by decide +kernel
theorem d_M_goesOn_161 : decode b_M_goesOn 161 = .ok (.iand, 1) := by decide +kernel
theorem d_M_goesOn_162 : decode b_M_goesOn 162 = .ok (.aload_n 0, 1) := by decide +kernel
theorem d_M_goesOn_163 : decode b_M_goesOn 163 = .ok (.getfield 23, 3) := by decide +kernel
theorem d_M_goesOn_166 : decode b_M_goesOn 166 = .ok (.iload_n 1, 1) := by decide +kernel
theorem d_M_goesOn_167 : decode b_M_goesOn 167 = .ok (.iaload, 1) := by decide +kernel
theorem d_M_goesOn_168 : decode b_M_goesOn 168 = .ok (.if_icmp .ne 12, 3) := by decide +kernel
theorem d_M_goesOn_171 : decode b_M_goesOn 171 = .ok (.aload_n 0, 1) := by decide +kernel
theorem d_M_goesOn_172 : decode b_M_goesOn 172 = .ok (.iload_n 1, 1) := by decide +kernel
theorem d_M_goesOn_173 : decode b_M_goesOn 173 = .ok (.iconst 0, 1) := by decide +kernel
theorem d_M_goesOn_174 : decode b_M_goesOn 174 = .ok (.iconst (-1), 1) := by decide +kernel
theorem d_M_goesOn_175 : decode b_M_goesOn 175 = .ok (.invokevirtual 111, 3) := by decide +kernel
theorem d_M_goesOn_178 : decode b_M_goesOn 178 = .ok (.iconst 1, 1) := by decide +kernel
theorem d_M_goesOn_179 : decode b_M_goesOn 179 = .ok (.ireturn, 1) := by decide +kernel
theorem d_M_goesOn_180 : decode b_M_goesOn 180 = .ok (.iconst 0, 1) := by decide +kernel
theorem d_M_goesOn_181 : decode b_M_goesOn 181 = .ok (.ireturn, 1) := by decide +kernel
theorem d_M_put_0 : decode b_M_put 0 = .ok (.aload_n 0, 1) := by decide +kernel
theorem d_M_put_1 : decode b_M_put 1 = .ok (.iload_n 1, 1) := by decide +kernel
theorem d_M_put_2 : decode b_M_put 2 = .ok (.iconst 1, 1) := by decide +kernel
theorem d_M_put_3 : decode b_M_put 3 = .ok (.iload_n 2, 1) := by decide +kernel
theorem d_M_put_4 : decode b_M_put 4 = .ok (.invokevirtual 111, 3) := by decide +kernel
theorem d_M_put_7 : decode b_M_put 7 = .ok (.aload_n 0, 1) := by decide +kernel
theorem d_M_put_8 : decode b_M_put 8 = .ok (.getfield 54, 3) := by decide +kernel
theorem d_M_put_11 : decode b_M_put 11 = .ok (.iload_n 2, 1) := by decide +kernel
theorem d_M_put_12 : decode b_M_put 12 = .ok (.iconst 1, 1) := by decide +kernel
theorem d_M_put_13 : decode b_M_put 13 = .ok (.bastore, 1) := by decide +kernel
theorem d_M_put_14 : decode b_M_put 14 = .ok (.aload_n 0, 1) := by decide +kernel
theorem d_M_put_15 : decode b_M_put 15 = .ok (.getfield 38, 3) := by decide +kernel
theorem d_M_put_18 : decode b_M_put 18 = .ok (.iload_n 1, 1) := by decide +kernel
theorem d_M_put_19 : decode b_M_put 19 = .ok (.dup2, 1) := by decide +kernel
theorem d_M_put_20 : decode b_M_put 20 = .ok (.iaload, 1) := by decide +kernel
theorem d_M_put_21 : decode b_M_put 21 = .ok (.iconst 1, 1) := by decide +kernel
theorem d_M_put_22 : decode b_M_put 22 = .ok (.iadd, 1) := by decide +kernel
theorem d_M_put_23 : decode b_M_put 23 = .ok (.iastore, 1) := by decide +kernel
theorem d_M_put_24 : decode b_M_put 24 = .ok (.return_, 1) := by decide +kernel
theorem d_M_nearest_0 : decode b_M_nearest 0 = .ok (.iconst (-1), 1) := by decide +kernel
theorem d_M_nearest_1 : decode b_M_nearest 1 = .ok (.istore_n 1, 1) := by decide +kernel
theorem d_M_nearest_2 : decode b_M_nearest 2 = .ok (.iconst 0, 1) := by decide +kernel
theorem d_M_nearest_3 : decode b_M_nearest 3 = .ok (.istore_n 2, 1) := by decide +kernel
theorem d_M_nearest_4 : decode b_M_nearest 4 = .ok (.iload_n 2, 1) := by decide +kernel
theorem d_M_nearest_5 : decode b_M_nearest 5 = .ok (.aload_n 0, 1) := by decide +kernel
theorem d_M_nearest_6 : decode b_M_nearest 6 = .ok (.getfield 81, 3) := by decide +kernel
theorem d_M_nearest_9 : decode b_M_nearest 9 = .ok (.if_icmp .ge 39, 3) := by decide +kernel
theorem d_M_nearest_12 : decode b_M_nearest 12 = .ok (.aload_n 0, 1) := by decide +kernel
theorem d_M_nearest_13 : decode b_M_nearest 13 = .ok (.getfield 26, 3) := by decide +kernel
theorem d_M_nearest_16 : decode b_M_nearest 16 = .ok (.iload_n 2, 1) := by decide +kernel
theorem d_M_nearest_17 : decode b_M_nearest 17 = .ok (.iaload, 1) := by decide +kernel
theorem d_M_nearest_18 : decode b_M_nearest 18 = .ok (.ifCond .ne 24, 3) := by decide +kernel
theorem d_M_nearest_21 : decode b_M_nearest 21 = .ok (.iload_n 1, 1) := by decide +kernel
theorem d_M_nearest_22 : decode b_M_nearest 22 = .ok (.ifCond .lt 18, 3) := by decide +kernel
theorem d_M_nearest_25 : decode b_M_nearest 25 = .ok (.aload_n 0, 1) := by decide +kernel
theorem d_M_nearest_26 : decode b_M_nearest 26 = .ok (.getfield 13, 3) := by decide +kernel
theorem d_M_nearest_29 : decode b_M_nearest 29 = .ok (.iload_n 2, 1) := by decide +kernel
theorem d_M_nearest_30 : decode b_M_nearest 30 = .ok (.iaload, 1) := by decide +kernel
theorem d_M_nearest_31 : decode b_M_nearest 31 = .ok (.aload_n 0, 1) := by decide +kernel
theorem d_M_nearest_32 : decode b_M_nearest 32 = .ok (.getfield 13, 3) := by decide +kernel
theorem d_M_nearest_35 : decode b_M_nearest 35 = .ok (.iload_n 1, 1) := by decide +kernel
theorem d_M_nearest_36 : decode b_M_nearest 36 = .ok (.iaload, 1) := by decide +kernel
theorem d_M_nearest_37 : decode b_M_nearest 37 = .ok (.if_icmp .ge 5, 3) := by decide +kernel
theorem d_M_nearest_40 : decode b_M_nearest 40 = .ok (.iload_n 2, 1) := by decide +kernel
theorem d_M_nearest_41 : decode b_M_nearest 41 = .ok (.istore_n 1, 1) := by decide +kernel
theorem d_M_nearest_42 : decode b_M_nearest 42 = .ok (.iinc 2 1, 3) := by decide +kernel
theorem d_M_nearest_45 : decode b_M_nearest 45 = .ok (.goto (-41), 3) := by decide +kernel
theorem d_M_nearest_48 : decode b_M_nearest 48 = .ok (.iload_n 1, 1) := by decide +kernel
theorem d_M_nearest_49 : decode b_M_nearest 49 = .ok (.ireturn, 1) := by decide +kernel
theorem d_M_serves_0 : decode b_M_serves 0 = .ok (.aload_n 0, 1) := by decide +kernel
theorem d_M_serves_1 : decode b_M_serves 1 = .ok (.invokevirtual 118, 3) := by decide +kernel
theorem d_M_serves_4 : decode b_M_serves 4 = .ok (.istore_n 1, 1) := by decide +kernel
theorem d_M_serves_5 : decode b_M_serves 5 = .ok (.aload_n 0, 1) := by decide +kernel
theorem d_M_serves_6 : decode b_M_serves 6 = .ok (.getfield 121, 3) := by decide +kernel
theorem d_M_serves_9 : decode b_M_serves 9 = .ok (.ifCond .eq 7, 3) := by decide +kernel
theorem d_M_serves_12 : decode b_M_serves 12 = .ok (.iload_n 1, 1) := by decide +kernel
theorem d_M_serves_13 : decode b_M_serves 13 = .ok (.ifCond .ge 5, 3) := by decide +kernel
theorem d_M_serves_16 : decode b_M_serves 16 = .ok (.iconst 0, 1) := by decide +kernel
theorem d_M_serves_17 : decode b_M_serves 17 = .ok (.ireturn, 1) := by decide +kernel
theorem d_M_serves_18 : decode b_M_serves 18 = .ok (.aload_n 0, 1) := by decide +kernel
theorem d_M_serves_19 : decode b_M_serves 19 = .ok (.iload_n 1, 1) := by decide +kernel
theorem d_M_serves_20 : decode b_M_serves 20 = .ok (.aload_n 0, 1) := by decide +kernel
theorem d_M_serves_21 : decode b_M_serves 21 = .ok (.getfield 75, 3) := by decide +kernel
theorem d_M_serves_24 : decode b_M_serves 24 = .ok (.iconst 0, 1) := by decide +kernel
theorem d_M_serves_25 : decode b_M_serves 25 = .ok (.iaload, 1) := by decide +kernel
theorem d_M_serves_26 : decode b_M_serves 26 = .ok (.invokevirtual 124, 3) := by decide +kernel
theorem d_M_serves_29 : decode b_M_serves 29 = .ok (.aload_n 0, 1) := by decide +kernel
theorem d_M_serves_30 : decode b_M_serves 30 = .ok (.dup, 1) := by decide +kernel
theorem d_M_serves_31 : decode b_M_serves 31 = .ok (.getfield 121, 3) := by decide +kernel
theorem d_M_serves_34 : decode b_M_serves 34 = .ok (.iconst 1, 1) := by decide +kernel
theorem d_M_serves_35 : decode b_M_serves 35 = .ok (.isub, 1) := by decide +kernel
theorem d_M_serves_36 : decode b_M_serves 36 = .ok (.putfield 121, 3) := by decide +kernel
theorem d_M_serves_39 : decode b_M_serves 39 = .ok (.iconst 0, 1) := by decide +kernel
theorem d_M_serves_40 : decode b_M_serves 40 = .ok (.istore_n 2, 1) := by decide +kernel
theorem d_M_serves_41 : decode b_M_serves 41 = .ok (.iload_n 2, 1) := by decide +kernel
theorem d_M_serves_42 : decode b_M_serves 42 = .ok (.aload_n 0, 1) := by decide +kernel
theorem d_M_serves_43 : decode b_M_serves 43 = .ok (.getfield 121, 3) := by decide +kernel
theorem d_M_serves_46 : decode b_M_serves 46 = .ok (.if_icmp .ge 23, 3) := by decide +kernel
theorem d_M_serves_49 : decode b_M_serves 49 = .ok (.aload_n 0, 1) := by decide +kernel
theorem d_M_serves_50 : decode b_M_serves 50 = .ok (.getfield 75, 3) := by decide +kernel
theorem d_M_serves_53 : decode b_M_serves 53 = .ok (.iload_n 2, 1) := by decide +kernel
theorem d_M_serves_54 : decode b_M_serves 54 = .ok (.aload_n 0, 1) := by decide +kernel
theorem d_M_serves_55 : decode b_M_serves 55 = .ok (.getfield 75, 3) := by decide +kernel
theorem d_M_serves_58 : decode b_M_serves 58 = .ok (.iload_n 2, 1) := by decide +kernel
theorem d_M_serves_59 : decode b_M_serves 59 = .ok (.iconst 1, 1) := by decide +kernel
theorem d_M_serves_60 : decode b_M_serves 60 = .ok (.iadd, 1) := by decide +kernel
theorem d_M_serves_61 : decode b_M_serves 61 = .ok (.iaload, 1) := by decide +kernel
theorem d_M_serves_62 : decode b_M_serves 62 = .ok (.iastore, 1) := by decide +kernel
theorem d_M_serves_63 : decode b_M_serves 63 = .ok (.iinc 2 1, 3) := by decide +kernel
theorem d_M_serves_66 : decode b_M_serves 66 = .ok (.goto (-25), 3) := by decide +kernel
theorem d_M_serves_69 : decode b_M_serves 69 = .ok (.iconst 1, 1) := by decide +kernel
theorem d_M_serves_70 : decode b_M_serves 70 = .ok (.ireturn, 1) := by decide +kernel
theorem d_M_there_0 : decode b_M_there 0 = .ok (.iconst 0, 1) := by decide +kernel
theorem d_M_there_1 : decode b_M_there 1 = .ok (.istore_n 2, 1) := by decide +kernel
theorem d_M_there_2 : decode b_M_there 2 = .ok (.iconst 0, 1) := by decide +kernel
theorem d_M_there_3 : decode b_M_there 3 = .ok (.istore_n 3, 1) := by decide +kernel
theorem d_M_there_4 : decode b_M_there 4 = .ok (.iload_n 3, 1) := by decide +kernel
theorem d_M_there_5 : decode b_M_there 5 = .ok (.aload_n 0, 1) := by decide +kernel
theorem d_M_there_6 : decode b_M_there 6 = .ok (.getfield 81, 3) := by decide +kernel
theorem d_M_there_9 : decode b_M_there 9 = .ok (.if_icmp .ge 37, 3) := by decide +kernel
theorem d_M_there_12 : decode b_M_there 12 = .ok (.iload_n 2, 1) := by decide +kernel
theorem d_M_there_13 : decode b_M_there 13 = .ok (.aload_n 0, 1) := by decide +kernel
theorem d_M_there_14 : decode b_M_there 14 = .ok (.getfield 26, 3) := by decide +kernel
theorem d_M_there_17 : decode b_M_there 17 = .ok (.iload_n 3, 1) := by decide +kernel
theorem d_M_there_18 : decode b_M_there 18 = .ok (.iaload, 1) := by decide +kernel
theorem d_M_there_19 : decode b_M_there 19 = .ok (.iconst 1, 1) := by decide +kernel
theorem d_M_there_20 : decode b_M_there 20 = .ok (.if_icmp .ne 17, 3) := by decide +kernel
theorem d_M_there_23 : decode b_M_there 23 = .ok (.aload_n 0, 1) := by decide +kernel
theorem d_M_there_24 : decode b_M_there 24 = .ok (.getfield 29, 3) := by decide +kernel
theorem d_M_there_27 : decode b_M_there 27 = .ok (.iload_n 3, 1) := by decide +kernel
theorem d_M_there_28 : decode b_M_there 28 = .ok (.iaload, 1) := by decide +kernel
theorem d_M_there_29 : decode b_M_there 29 = .ok (.iload_n 1, 1) := by decide +kernel
theorem d_M_there_30 : decode b_M_there 30 = .ok (.if_icmp .ne 7, 3) := by decide +kernel
theorem d_M_there_33 : decode b_M_there 33 = .ok (.iconst 1, 1) := by decide +kernel
theorem d_M_there_34 : decode b_M_there 34 = .ok (.goto 4, 3) := by decide +kernel
theorem d_M_there_37 : decode b_M_there 37 = .ok (.iconst 0, 1) := by decide +kernel
theorem d_M_there_38 : decode b_M_there 38 = .ok (.iadd, 1) := by decide +kernel
theorem d_M_there_39 : decode b_M_there 39 = .ok (.istore_n 2, 1) := by decide +kernel
theorem d_M_there_40 : decode b_M_there 40 = .ok (.iinc 3 1, 3) := by decide +kernel
theorem d_M_there_43 : decode b_M_there 43 = .ok (.goto (-39), 3) := by decide +kernel
theorem d_M_there_46 : decode b_M_there 46 = .ok (.iload_n 2, 1) := by decide +kernel
theorem d_M_there_47 : decode b_M_there 47 = .ok (.ireturn, 1) := by decide +kernel
theorem d_M_waitingFor_0 : decode b_M_waitingFor 0 = .ok (.iconst 0, 1) := by decide +kernel
theorem d_M_waitingFor_1 : decode b_M_waitingFor 1 = .ok (.istore_n 2, 1) := by decide +kernel
theorem d_M_waitingFor_2 : decode b_M_waitingFor 2 = .ok (.iconst 0, 1) := by decide +kernel
theorem d_M_waitingFor_3 : decode b_M_waitingFor 3 = .ok (.istore_n 3, 1) := by decide +kernel
theorem d_M_waitingFor_4 : decode b_M_waitingFor 4 = .ok (.iload_n 3, 1) := by decide +kernel
theorem d_M_waitingFor_5 : decode b_M_waitingFor 5 = .ok (.aload_n 0, 1) := by decide +kernel
theorem d_M_waitingFor_6 : decode b_M_waitingFor 6 = .ok (.getfield 121, 3) := by decide +kernel
theorem d_M_waitingFor_9 : decode b_M_waitingFor 9 = .ok (.if_icmp .ge 27, 3) := by decide +kernel
theorem d_M_waitingFor_12 : decode b_M_waitingFor 12 = .ok (.iload_n 2, 1) := by decide +kernel
theorem d_M_waitingFor_13 : decode b_M_waitingFor 13 = .ok (.aload_n 0, 1) := by decide +kernel
theorem d_M_waitingFor_14 : decode b_M_waitingFor 14 = .ok (.getfield 75, 3) := by decide +kernel
theorem d_M_waitingFor_17 : decode b_M_waitingFor 17 = .ok (.iload_n 3, 1) := by decide +kernel
theorem d_M_waitingFor_18 : decode b_M_waitingFor 18 = .ok (.iaload, 1) := by decide +kernel
theorem d_M_waitingFor_19 : decode b_M_waitingFor 19 = .ok (.iload_n 1, 1) := by decide +kernel
theorem d_M_waitingFor_20 : decode b_M_waitingFor 20 = .ok (.if_icmp .ne 7, 3) := by decide +kernel
theorem d_M_waitingFor_23 : decode b_M_waitingFor 23 = .ok (.iconst 1, 1) := by decide +kernel
theorem d_M_waitingFor_24 : decode b_M_waitingFor 24 = .ok (.goto 4, 3) := by decide +kernel
theorem d_M_waitingFor_27 : decode b_M_waitingFor 27 = .ok (.iconst 0, 1) := by decide +kernel
theorem d_M_waitingFor_28 : decode b_M_waitingFor 28 = .ok (.iadd, 1) := by decide +kernel
theorem d_M_waitingFor_29 : decode b_M_waitingFor 29 = .ok (.istore_n 2, 1) := by decide +kernel
theorem d_M_waitingFor_30 : decode b_M_waitingFor 30 = .ok (.iinc 3 1, 3) := by decide +kernel
theorem d_M_waitingFor_33 : decode b_M_waitingFor 33 = .ok (.goto (-29), 3) := by decide +kernel
theorem d_M_waitingFor_36 : decode b_M_waitingFor 36 = .ok (.iload_n 2, 1) := by decide +kernel
theorem d_M_waitingFor_37 : decode b_M_waitingFor 37 = .ok (.ireturn, 1) := by decide +kernel
theorem d_M_ends_0 : decode b_M_ends 0 = .ok (.aload_n 0, 1) := by decide +kernel
theorem d_M_ends_1 : decode b_M_ends 1 = .ok (.getfield 50, 3) := by decide +kernel
theorem d_M_ends_4 : decode b_M_ends 4 = .ok (.iload_n 1, 1) := by decide +kernel
theorem d_M_ends_5 : decode b_M_ends 5 = .ok (.baload, 1) := by decide +kernel
theorem d_M_ends_6 : decode b_M_ends 6 = .ok (.ifCond .eq 77, 3) := by decide +kernel
theorem d_M_ends_9 : decode b_M_ends 9 = .ok (.aload_n 0, 1) := by decide +kernel
theorem d_M_ends_10 : decode b_M_ends 10 = .ok (.getfield 54, 3) := by decide +kernel
theorem d_M_ends_13 : decode b_M_ends 13 = .ok (.iload_n 1, 1) := by decide +kernel
theorem d_M_ends_14 : decode b_M_ends 14 = .ok (.baload, 1) := by decide +kernel
theorem d_M_ends_15 : decode b_M_ends 15 = .ok (.ifCond .eq 68, 3) := by decide +kernel
theorem d_M_ends_18 : decode b_M_ends 18 = .ok (.aload_n 0, 1) := by decide +kernel
theorem d_M_ends_19 : decode b_M_ends 19 = .ok (.iload_n 1, 1) := by decide +kernel
theorem d_M_ends_20 : decode b_M_ends 20 = .ok (.invokevirtual 128, 3) := by decide +kernel
theorem d_M_ends_23 : decode b_M_ends 23 = .ok (.ifCond .ne 60, 3) := by decide +kernel
theorem d_M_ends_26 : decode b_M_ends 26 = .ok (.aload_n 0, 1) := by decide +kernel
theorem d_M_ends_27 : decode b_M_ends 27 = .ok (.iload_n 1, 1) := by decide +kernel
theorem d_M_ends_28 : decode b_M_ends 28 = .ok (.invokevirtual 132, 3) := by decide +kernel
theorem d_M_ends_31 : decode b_M_ends 31 = .ok (.ifCond .ne 52, 3) := by decide +kernel
theorem d_M_ends_34 : decode b_M_ends 34 = .ok (.aload_n 0, 1) := by decide +kernel
theorem d_M_ends_35 : decode b_M_ends 35 = .ok (.getfield 60, 3) := by decide +kernel
theorem d_M_ends_38 : decode b_M_ends 38 = .ok (.iload_n 1, 1) := by decide +kernel
theorem d_M_ends_39 : decode b_M_ends 39 = .ok (.iaload, 1) := by decide +kernel
theorem d_M_ends_40 : decode b_M_ends 40 = .ok (.ifCond .ne 43, 3) := by decide +kernel
theorem d_M_ends_43 : decode b_M_ends 43 = .ok (.aload_n 0, 1) := by decide +kernel
theorem d_M_ends_44 : decode b_M_ends 44 = .ok (.getfield 57, 3) := by decide +kernel
theorem d_M_ends_47 : decode b_M_ends 47 = .ok (.iload_n 1, 1) := by decide +kernel
theorem d_M_ends_48 : decode b_M_ends 48 = .ok (.iaload, 1) := by decide +kernel
theorem d_M_ends_49 : decode b_M_ends 49 = .ok (.bipush 8, 2) := by decide +kernel
theorem d_M_ends_51 : decode b_M_ends 51 = .ok (.irem, 1) := by decide +kernel
theorem d_M_ends_52 : decode b_M_ends 52 = .ok (.bipush 7, 2) := by decide +kernel
theorem d_M_ends_54 : decode b_M_ends 54 = .ok (.if_icmp .ne 29, 3) := by decide +kernel
theorem d_M_ends_57 : decode b_M_ends 57 = .ok (.aload_n 0, 1) := by decide +kernel
theorem d_M_ends_58 : decode b_M_ends 58 = .ok (.getfield 63, 3) := by decide +kernel
theorem d_M_ends_61 : decode b_M_ends 61 = .ok (.iload_n 1, 1) := by decide +kernel
theorem d_M_ends_62 : decode b_M_ends 62 = .ok (.iaload, 1) := by decide +kernel
theorem d_M_ends_63 : decode b_M_ends 63 = .ok (.ifCond .lt 16, 3) := by decide +kernel
theorem d_M_ends_66 : decode b_M_ends 66 = .ok (.aload_n 0, 1) := by decide +kernel
theorem d_M_ends_67 : decode b_M_ends 67 = .ok (.getfield 100, 3) := by decide +kernel
theorem d_M_ends_70 : decode b_M_ends 70 = .ok (.aload_n 0, 1) := by decide +kernel
theorem d_M_ends_71 : decode b_M_ends 71 = .ok (.getfield 63, 3) := by decide +kernel
theorem d_M_ends_74 : decode b_M_ends 74 = .ok (.iload_n 1, 1) := by decide +kernel
theorem d_M_ends_75 : decode b_M_ends 75 = .ok (.iaload, 1) := by decide +kernel
theorem d_M_ends_76 : decode b_M_ends 76 = .ok (.if_icmp .lt 7, 3) := by decide +kernel
theorem d_M_ends_79 : decode b_M_ends 79 = .ok (.iconst 1, 1) := by decide +kernel
theorem d_M_ends_80 : decode b_M_ends 80 = .ok (.goto 4, 3) := by decide +kernel
theorem d_M_ends_83 : decode b_M_ends 83 = .ok (.iconst 0, 1) := by decide +kernel
theorem d_M_ends_84 : decode b_M_ends 84 = .ok (.ireturn, 1) := by decide +kernel
theorem d_M_settle_0 : decode b_M_settle 0 = .ok (.iconst 0, 1) := by decide +kernel
theorem d_M_settle_1 : decode b_M_settle 1 = .ok (.istore_n 1, 1) := by decide +kernel
theorem d_M_settle_2 : decode b_M_settle 2 = .ok (.iconst 1, 1) := by decide +kernel
theorem d_M_settle_3 : decode b_M_settle 3 = .ok (.istore_n 2, 1) := by decide +kernel
theorem d_M_settle_4 : decode b_M_settle 4 = .ok (.iload_n 2, 1) := by decide +kernel
theorem d_M_settle_5 : decode b_M_settle 5 = .ok (.ifCond .eq 105, 3) := by decide +kernel
theorem d_M_settle_8 : decode b_M_settle 8 = .ok (.iconst 0, 1) := by decide +kernel
theorem d_M_settle_9 : decode b_M_settle 9 = .ok (.istore_n 2, 1) := by decide +kernel
theorem d_M_settle_10 : decode b_M_settle 10 = .ok (.iconst 0, 1) := by decide +kernel
theorem d_M_settle_11 : decode b_M_settle 11 = .ok (.istore_n 3, 1) := by decide +kernel
theorem d_M_settle_12 : decode b_M_settle 12 = .ok (.iload_n 3, 1) := by decide +kernel
theorem d_M_settle_13 : decode b_M_settle 13 = .ok (.aload_n 0, 1) := by decide +kernel
theorem d_M_settle_14 : decode b_M_settle 14 = .ok (.getfield 81, 3) := by decide +kernel
theorem d_M_settle_17 : decode b_M_settle 17 = .ok (.if_icmp .ge 22, 3) := by decide +kernel
theorem d_M_settle_20 : decode b_M_settle 20 = .ok (.aload_n 0, 1) := by decide +kernel
theorem d_M_settle_21 : decode b_M_settle 21 = .ok (.iload_n 3, 1) := by decide +kernel
theorem d_M_settle_22 : decode b_M_settle 22 = .ok (.invokevirtual 135, 3) := by decide +kernel
theorem d_M_settle_25 : decode b_M_settle 25 = .ok (.ifCond .eq 8, 3) := by decide +kernel
theorem d_M_settle_28 : decode b_M_settle 28 = .ok (.iconst 1, 1) := by decide +kernel
theorem d_M_settle_29 : decode b_M_settle 29 = .ok (.istore_n 2, 1) := by decide +kernel
theorem d_M_settle_30 : decode b_M_settle 30 = .ok (.goto (-10), 3) := by decide +kernel
theorem d_M_settle_33 : decode b_M_settle 33 = .ok (.iinc 3 1, 3) := by decide +kernel
theorem d_M_settle_36 : decode b_M_settle 36 = .ok (.goto (-24), 3) := by decide +kernel
theorem d_M_settle_39 : decode b_M_settle 39 = .ok (.aload_n 0, 1) := by decide +kernel
theorem d_M_settle_40 : decode b_M_settle 40 = .ok (.invokevirtual 138, 3) := by decide +kernel
theorem d_M_settle_43 : decode b_M_settle 43 = .ok (.ifCond .eq 8, 3) := by decide +kernel
theorem d_M_settle_46 : decode b_M_settle 46 = .ok (.iconst 1, 1) := by decide +kernel
theorem d_M_settle_47 : decode b_M_settle 47 = .ok (.istore_n 2, 1) := by decide +kernel
theorem d_M_settle_48 : decode b_M_settle 48 = .ok (.goto (-9), 3) := by decide +kernel
theorem d_M_settle_51 : decode b_M_settle 51 = .ok (.iconst 0, 1) := by decide +kernel
theorem d_M_settle_52 : decode b_M_settle 52 = .ok (.istore_n 3, 1) := by decide +kernel
theorem d_M_settle_53 : decode b_M_settle 53 = .ok (.iload_n 3, 1) := by decide +kernel
theorem d_M_settle_54 : decode b_M_settle 54 = .ok (.aload_n 0, 1) := by decide +kernel
theorem d_M_settle_55 : decode b_M_settle 55 = .ok (.getfield 88, 3) := by decide +kernel
theorem d_M_settle_58 : decode b_M_settle 58 = .ok (.if_icmp .ge 49, 3) := by decide +kernel
theorem d_M_settle_61 : decode b_M_settle 61 = .ok (.aload_n 0, 1) := by decide +kernel
theorem d_M_settle_62 : decode b_M_settle 62 = .ok (.iload_n 3, 1) := by decide +kernel
theorem d_M_settle_63 : decode b_M_settle 63 = .ok (.invokevirtual 142, 3) := by decide +kernel
theorem d_M_settle_66 : decode b_M_settle 66 = .ok (.ifCond .eq 35, 3) := by decide +kernel
theorem d_M_settle_69 : decode b_M_settle 69 = .ok (.aload_n 0, 1) := by decide +kernel
theorem d_M_settle_70 : decode b_M_settle 70 = .ok (.getfield 50, 3) := by decide +kernel
theorem d_M_settle_73 : decode b_M_settle 73 = .ok (.iload_n 3, 1) := by decide +kernel
theorem d_M_settle_74 : decode b_M_settle 74 = .ok (.iconst 0, 1) := by decide +kernel
theorem d_M_settle_75 : decode b_M_settle 75 = .ok (.bastore, 1) := by decide +kernel
theorem d_M_settle_76 : decode b_M_settle 76 = .ok (.aload_n 0, 1) := by decide +kernel
theorem d_M_settle_77 : decode b_M_settle 77 = .ok (.getfield 69, 3) := by decide +kernel
theorem d_M_settle_80 : decode b_M_settle 80 = .ok (.iload_n 3, 1) := by decide +kernel
theorem d_M_settle_81 : decode b_M_settle 81 = .ok (.dup2, 1) := by decide +kernel
theorem d_M_settle_82 : decode b_M_settle 82 = .ok (.iaload, 1) := by decide +kernel
theorem d_M_settle_83 : decode b_M_settle 83 = .ok (.iconst 1, 1) := by decide +kernel
theorem d_M_settle_84 : decode b_M_settle 84 = .ok (.iadd, 1) := by decide +kernel
theorem d_M_settle_85 : decode b_M_settle 85 = .ok (.iastore, 1) := by decide +kernel
theorem d_M_settle_86 : decode b_M_settle 86 = .ok (.aload_n 0, 1) := by decide +kernel
theorem d_M_settle_87 : decode b_M_settle 87 = .ok (.getfield 72, 3) := by decide +kernel
theorem d_M_settle_90 : decode b_M_settle 90 = .ok (.iload_n 3, 1) := by decide +kernel
theorem d_M_settle_91 : decode b_M_settle 91 = .ok (.aload_n 0, 1) := by decide +kernel
theorem d_M_settle_92 : decode b_M_settle 92 = .ok (.getfield 100, 3) := by decide +kernel
theorem d_M_settle_95 : decode b_M_settle 95 = .ok (.iastore, 1) := by decide +kernel
theorem d_M_settle_96 : decode b_M_settle 96 = .ok (.iinc 1 1, 3) := by decide +kernel
theorem d_M_settle_99 : decode b_M_settle 99 = .ok (.iconst 1, 1) := by decide +kernel
theorem d_M_settle_100 : decode b_M_settle 100 = .ok (.istore_n 2, 1) := by decide +kernel
theorem d_M_settle_101 : decode b_M_settle 101 = .ok (.iinc 3 1, 3) := by decide +kernel
theorem d_M_settle_104 : decode b_M_settle 104 = .ok (.goto (-51), 3) := by decide +kernel
theorem d_M_settle_107 : decode b_M_settle 107 = .ok (.goto (-103), 3) := by decide +kernel
theorem d_M_settle_110 : decode b_M_settle 110 = .ok (.iload_n 1, 1) := by decide +kernel
theorem d_M_settle_111 : decode b_M_settle 111 = .ok (.ireturn, 1) := by decide +kernel
theorem d_M_tick_0 : decode b_M_tick 0 = .ok (.aload_n 0, 1) := by decide +kernel
theorem d_M_tick_1 : decode b_M_tick 1 = .ok (.iload_n 1, 1) := by decide +kernel
theorem d_M_tick_2 : decode b_M_tick 2 = .ok (.iconst 1, 1) := by decide +kernel
theorem d_M_tick_3 : decode b_M_tick 3 = .ok (.sipush 5000, 3) := by decide +kernel
theorem d_M_tick_6 : decode b_M_tick 6 = .ok (.invokestatic 84, 3) := by decide +kernel
theorem d_M_tick_9 : decode b_M_tick 9 = .ok (.ifCond .eq 14, 3) := by decide +kernel
theorem d_M_tick_12 : decode b_M_tick 12 = .ok (.aload_n 0, 1) := by decide +kernel
theorem d_M_tick_13 : decode b_M_tick 13 = .ok (.getfield 100, 3) := by decide +kernel
theorem d_M_tick_16 : decode b_M_tick 16 = .ok (.iload_n 1, 1) := by decide +kernel
theorem d_M_tick_17 : decode b_M_tick 17 = .ok (.iadd, 1) := by decide +kernel
theorem d_M_tick_18 : decode b_M_tick 18 = .ok (.ldc 145, 2) := by decide +kernel
theorem d_M_tick_20 : decode b_M_tick 20 = .ok (.if_icmp .le 7, 3) := by decide +kernel
theorem d_M_tick_23 : decode b_M_tick 23 = .ok (.iconst 1, 1) := by decide +kernel
theorem d_M_tick_24 : decode b_M_tick 24 = .ok (.goto 4, 3) := by decide +kernel
theorem d_M_tick_27 : decode b_M_tick 27 = .ok (.iconst 0, 1) := by decide +kernel
theorem d_M_tick_28 : decode b_M_tick 28 = .ok (.iconst 0, 1) := by decide +kernel
theorem d_M_tick_29 : decode b_M_tick 29 = .ok (.iconst 0, 1) := by decide +kernel
theorem d_M_tick_30 : decode b_M_tick 30 = .ok (.iconst 0, 1) := by decide +kernel
theorem d_M_tick_31 : decode b_M_tick 31 = .ok (.invokevirtual 96, 3) := by decide +kernel
theorem d_M_tick_34 : decode b_M_tick 34 = .ok (.ifCond .eq 5, 3) := by decide +kernel
theorem d_M_tick_37 : decode b_M_tick 37 = .ok (.iconst 0, 1) := by decide +kernel
theorem d_M_tick_38 : decode b_M_tick 38 = .ok (.ireturn, 1) := by decide +kernel
theorem d_M_tick_39 : decode b_M_tick 39 = .ok (.iconst 0, 1) := by decide +kernel
theorem d_M_tick_40 : decode b_M_tick 40 = .ok (.istore_n 2, 1) := by decide +kernel
theorem d_M_tick_41 : decode b_M_tick 41 = .ok (.iconst 0, 1) := by decide +kernel
theorem d_M_tick_42 : decode b_M_tick 42 = .ok (.istore_n 3, 1) := by decide +kernel
theorem d_M_tick_43 : decode b_M_tick 43 = .ok (.iload_n 3, 1) := by decide +kernel
theorem d_M_tick_44 : decode b_M_tick 44 = .ok (.iload_n 1, 1) := by decide +kernel
theorem d_M_tick_45 : decode b_M_tick 45 = .ok (.if_icmp .ge 26, 3) := by decide +kernel
theorem d_M_tick_48 : decode b_M_tick 48 = .ok (.aload_n 0, 1) := by decide +kernel
theorem d_M_tick_49 : decode b_M_tick 49 = .ok (.dup, 1) := by decide +kernel
theorem d_M_tick_50 : decode b_M_tick 50 = .ok (.getfield 100, 3) := by decide +kernel
theorem d_M_tick_53 : decode b_M_tick 53 = .ok (.iconst 1, 1) := by decide +kernel
theorem d_M_tick_54 : decode b_M_tick 54 = .ok (.iadd, 1) := by decide +kernel
theorem d_M_tick_55 : decode b_M_tick 55 = .ok (.putfield 100, 3) := by decide +kernel
theorem d_M_tick_58 : decode b_M_tick 58 = .ok (.iload_n 2, 1) := by decide +kernel
theorem d_M_tick_59 : decode b_M_tick 59 = .ok (.aload_n 0, 1) := by decide +kernel
theorem d_M_tick_60 : decode b_M_tick 60 = .ok (.invokevirtual 103, 3) := by decide +kernel
theorem d_M_tick_63 : decode b_M_tick 63 = .ok (.iadd, 1) := by decide +kernel
theorem d_M_tick_64 : decode b_M_tick 64 = .ok (.istore_n 2, 1) := by decide +kernel
theorem d_M_tick_65 : decode b_M_tick 65 = .ok (.iinc 3 1, 3) := by decide +kernel
theorem d_M_tick_68 : decode b_M_tick 68 = .ok (.goto (-25), 3) := by decide +kernel
theorem d_M_tick_71 : decode b_M_tick 71 = .ok (.iload_n 2, 1) := by decide +kernel
theorem d_M_tick_72 : decode b_M_tick 72 = .ok (.ireturn, 1) := by decide +kernel
theorem d_M_found_0 : decode b_M_found 0 = .ok (.iconst (-1), 1) := by decide +kernel
theorem d_M_found_1 : decode b_M_found 1 = .ok (.istore_n 3, 1) := by decide +kernel
theorem d_M_found_2 : decode b_M_found 2 = .ok (.iconst 0, 1) := by decide +kernel
theorem d_M_found_3 : decode b_M_found 3 = .ok (.istore 4, 2) := by decide +kernel
theorem d_M_found_5 : decode b_M_found 5 = .ok (.iload 4, 2) := by decide +kernel
theorem d_M_found_7 : decode b_M_found 7 = .ok (.aload_n 0, 1) := by decide +kernel
theorem d_M_found_8 : decode b_M_found 8 = .ok (.getfield 88, 3) := by decide +kernel
theorem d_M_found_11 : decode b_M_found 11 = .ok (.if_icmp .ge 93, 3) := by decide +kernel
theorem d_M_found_14 : decode b_M_found 14 = .ok (.aload_n 0, 1) := by decide +kernel
theorem d_M_found_15 : decode b_M_found 15 = .ok (.getfield 47, 3) := by decide +kernel
theorem d_M_found_18 : decode b_M_found 18 = .ok (.iload 4, 2) := by decide +kernel
theorem d_M_found_20 : decode b_M_found 20 = .ok (.iaload, 1) := by decide +kernel
theorem d_M_found_21 : decode b_M_found 21 = .ok (.iload_n 1, 1) := by decide +kernel
theorem d_M_found_22 : decode b_M_found 22 = .ok (.if_icmp .ne 41, 3) := by decide +kernel
theorem d_M_found_25 : decode b_M_found 25 = .ok (.aload_n 0, 1) := by decide +kernel
theorem d_M_found_26 : decode b_M_found 26 = .ok (.getfield 50, 3) := by decide +kernel
theorem d_M_found_29 : decode b_M_found 29 = .ok (.iload 4, 2) := by decide +kernel
theorem d_M_found_31 : decode b_M_found 31 = .ok (.baload, 1) := by decide +kernel
theorem d_M_found_32 : decode b_M_found 32 = .ok (.iload_n 2, 1) := by decide +kernel
theorem d_M_found_33 : decode b_M_found 33 = .ok (.if_icmp .ne 30, 3) := by decide +kernel
theorem d_M_found_36 : decode b_M_found 36 = .ok (.iload_n 2, 1) := by decide +kernel
theorem d_M_found_37 : decode b_M_found 37 = .ok (.ifCond .ne 22, 3) := by decide +kernel
theorem d_M_found_40 : decode b_M_found 40 = .ok (.aload_n 0, 1) := by decide +kernel
theorem d_M_found_41 : decode b_M_found 41 = .ok (.getfield 100, 3) := by decide +kernel
theorem d_M_found_44 : decode b_M_found 44 = .ok (.aload_n 0, 1) := by decide +kernel
theorem d_M_found_45 : decode b_M_found 45 = .ok (.getfield 72, 3) := by decide +kernel
theorem d_M_found_48 : decode b_M_found 48 = .ok (.iload 4, 2) := by decide +kernel
theorem d_M_found_50 : decode b_M_found 50 = .ok (.iaload, 1) := by decide +kernel
theorem d_M_found_51 : decode b_M_found 51 = .ok (.isub, 1) := by decide +kernel
theorem d_M_found_52 : decode b_M_found 52 = .ok (.aload_n 0, 1) := by decide +kernel
theorem d_M_found_53 : decode b_M_found 53 = .ok (.getfield 7, 3) := by decide +kernel
theorem d_M_found_56 : decode b_M_found 56 = .ok (.if_icmp .gt 7, 3) := by decide +kernel
theorem d_M_found_59 : decode b_M_found 59 = .ok (.iconst 1, 1) := by decide +kernel
theorem d_M_found_60 : decode b_M_found 60 = .ok (.goto 4, 3) := by decide +kernel
theorem d_M_found_63 : decode b_M_found 63 = .ok (.iconst 0, 1) := by decide +kernel
theorem d_M_found_64 : decode b_M_found 64 = .ok (.istore 5, 2) := by decide +kernel
theorem d_M_found_66 : decode b_M_found 66 = .ok (.iload 5, 2) := by decide +kernel
theorem d_M_found_68 : decode b_M_found 68 = .ok (.ifCond .eq 30, 3) := by decide +kernel
theorem d_M_found_71 : decode b_M_found 71 = .ok (.iload_n 3, 1) := by decide +kernel
theorem d_M_found_72 : decode b_M_found 72 = .ok (.ifCond .lt 23, 3) := by decide +kernel
theorem d_M_found_75 : decode b_M_found 75 = .ok (.iload_n 2, 1) := by decide +kernel
theorem d_M_found_76 : decode b_M_found 76 = .ok (.ifCond .ne 19, 3) := by decide +kernel
theorem d_M_found_79 : decode b_M_found 79 = .ok (.aload_n 0, 1) := by decide +kernel
theorem d_M_found_80 : decode b_M_found 80 = .ok (.getfield 72, 3) := by decide +kernel
theorem d_M_found_83 : decode b_M_found 83 = .ok (.iload 4, 2) := by decide +kernel
theorem d_M_found_85 : decode b_M_found 85 = .ok (.iaload, 1) := by decide +kernel
theorem d_M_found_86 : decode b_M_found 86 = .ok (.aload_n 0, 1) := by decide +kernel
theorem d_M_found_87 : decode b_M_found 87 = .ok (.getfield 72, 3) := by decide +kernel
theorem d_M_found_90 : decode b_M_found 90 = .ok (.iload_n 3, 1) := by decide +kernel
theorem d_M_found_91 : decode b_M_found 91 = .ok (.iaload, 1) := by decide +kernel
theorem d_M_found_92 : decode b_M_found 92 = .ok (.if_icmp .lt 6, 3) := by decide +kernel
theorem d_M_found_95 : decode b_M_found 95 = .ok (.iload 4, 2) := by decide +kernel
theorem d_M_found_97 : decode b_M_found 97 = .ok (.istore_n 3, 1) := by decide +kernel
theorem d_M_found_98 : decode b_M_found 98 = .ok (.iinc 4 1, 3) := by decide +kernel
theorem d_M_found_101 : decode b_M_found 101 = .ok (.goto (-96), 3) := by decide +kernel
theorem d_M_found_104 : decode b_M_found 104 = .ok (.iload_n 3, 1) := by decide +kernel
theorem d_M_found_105 : decode b_M_found 105 = .ok (.ireturn, 1) := by decide +kernel
theorem d_M_call_0 : decode b_M_call 0 = .ok (.iload_n 1, 1) := by decide +kernel
theorem d_M_call_1 : decode b_M_call 1 = .ok (.iconst 0, 1) := by decide +kernel
theorem d_M_call_2 : decode b_M_call 2 = .ok (.bipush 99, 2) := by decide +kernel
theorem d_M_call_4 : decode b_M_call 4 = .ok (.invokestatic 84, 3) := by decide +kernel
theorem d_M_call_7 : decode b_M_call 7 = .ok (.ifCond .ne 7, 3) := by decide +kernel
theorem d_M_call_10 : decode b_M_call 10 = .ok (.iconst 1, 1) := by decide +kernel
theorem d_M_call_11 : decode b_M_call 11 = .ok (.goto 4, 3) := by decide +kernel
theorem d_M_call_14 : decode b_M_call 14 = .ok (.iconst 0, 1) := by decide +kernel
theorem d_M_call_15 : decode b_M_call 15 = .ok (.istore_n 3, 1) := by decide +kernel
theorem d_M_call_16 : decode b_M_call 16 = .ok (.aload_n 0, 1) := by decide +kernel
theorem d_M_call_17 : decode b_M_call 17 = .ok (.iload_n 1, 1) := by decide +kernel
theorem d_M_call_18 : decode b_M_call 18 = .ok (.iconst 1, 1) := by decide +kernel
theorem d_M_call_19 : decode b_M_call 19 = .ok (.invokevirtual 146, 3) := by decide +kernel
theorem d_M_call_22 : decode b_M_call 22 = .ok (.istore 4, 2) := by decide +kernel
theorem d_M_call_24 : decode b_M_call 24 = .ok (.iload 4, 2) := by decide +kernel
theorem d_M_call_26 : decode b_M_call 26 = .ok (.ifCond .ge 12, 3) := by decide +kernel
theorem d_M_call_29 : decode b_M_call 29 = .ok (.aload_n 0, 1) := by decide +kernel
theorem d_M_call_30 : decode b_M_call 30 = .ok (.iload_n 1, 1) := by decide +kernel
theorem d_M_call_31 : decode b_M_call 31 = .ok (.iconst 0, 1) := by decide +kernel
theorem d_M_call_32 : decode b_M_call 32 = .ok (.invokevirtual 146, 3) := by decide +kernel
theorem d_M_call_35 : decode b_M_call 35 = .ok (.goto 4, 3) := by decide +kernel
theorem d_M_call_38 : decode b_M_call 38 = .ok (.iconst (-1), 1) := by decide +kernel
theorem d_M_call_39 : decode b_M_call 39 = .ok (.istore 5, 2) := by decide +kernel
theorem d_M_call_41 : decode b_M_call 41 = .ok (.iload 4, 2) := by decide +kernel
theorem d_M_call_43 : decode b_M_call 43 = .ok (.ifCond .ge 17, 3) := by decide +kernel
theorem d_M_call_46 : decode b_M_call 46 = .ok (.iload 5, 2) := by decide +kernel
theorem d_M_call_48 : decode b_M_call 48 = .ok (.ifCond .ge 12, 3) := by decide +kernel
theorem d_M_call_51 : decode b_M_call 51 = .ok (.aload_n 0, 1) := by decide +kernel
theorem d_M_call_52 : decode b_M_call 52 = .ok (.getfield 88, 3) := by decide +kernel
theorem d_M_call_55 : decode b_M_call 55 = .ok (.bipush 20, 2) := by decide +kernel
theorem d_M_call_57 : decode b_M_call 57 = .ok (.if_icmp .ge 7, 3) := by decide +kernel
theorem d_M_call_60 : decode b_M_call 60 = .ok (.iconst 1, 1) := by decide +kernel
theorem d_M_call_61 : decode b_M_call 61 = .ok (.goto 4, 3) := by decide +kernel
theorem d_M_call_64 : decode b_M_call 64 = .ok (.iconst 0, 1) := by decide +kernel
theorem d_M_call_65 : decode b_M_call 65 = .ok (.istore 6, 2) := by decide +kernel
theorem d_M_call_67 : decode b_M_call 67 = .ok (.aload_n 0, 1) := by decide +kernel
theorem d_M_call_68 : decode b_M_call 68 = .ok (.iload_n 3, 1) := by decide +kernel
theorem d_M_call_69 : decode b_M_call 69 = .ok (.iload 6, 2) := by decide +kernel
theorem d_M_call_71 : decode b_M_call 71 = .ok (.ifCond .eq 16, 3) := by decide +kernel
theorem d_M_call_74 : decode b_M_call 74 = .ok (.iload_n 2, 1) := by decide +kernel
theorem d_M_call_75 : decode b_M_call 75 = .ok (.ifCond .eq 16, 3) := by decide +kernel
theorem d_M_call_78 : decode b_M_call 78 = .ok (.aload_n 0, 1) := by decide +kernel
theorem d_M_call_79 : decode b_M_call 79 = .ok (.getfield 121, 3) := by decide +kernel
theorem d_M_call_82 : decode b_M_call 82 = .ok (.bipush 30, 2) := by decide +kernel
theorem d_M_call_84 : decode b_M_call 84 = .ok (.if_icmp .ne 7, 3) := by decide +kernel
theorem d_M_call_87 : decode b_M_call 87 = .ok (.iconst 1, 1) := by decide +kernel
theorem d_M_call_88 : decode b_M_call 88 = .ok (.goto 4, 3) := by decide +kernel
theorem d_M_call_91 : decode b_M_call 91 = .ok (.iconst 0, 1) := by decide +kernel
theorem d_M_call_92 : decode b_M_call 92 = .ok (.iconst 0, 1) := by decide +kernel
theorem d_M_call_93 : decode b_M_call 93 = .ok (.iconst 0, 1) := by decide +kernel
theorem d_M_call_94 : decode b_M_call 94 = .ok (.invokevirtual 96, 3) := by decide +kernel
theorem d_M_call_97 : decode b_M_call 97 = .ok (.ifCond .eq 5, 3) := by decide +kernel
theorem d_M_call_100 : decode b_M_call 100 = .ok (.iconst 0, 1) := by decide +kernel
theorem d_M_call_101 : decode b_M_call 101 = .ok (.ireturn, 1) := by decide +kernel
theorem d_M_call_102 : decode b_M_call 102 = .ok (.iload 4, 2) := by decide +kernel
theorem d_M_call_104 : decode b_M_call 104 = .ok (.ifCond .ge 101, 3) := by decide +kernel
theorem d_M_call_107 : decode b_M_call 107 = .ok (.iload 5, 2) := by decide +kernel
theorem d_M_call_109 : decode b_M_call 109 = .ok (.ifCond .lt 8, 3) := by decide +kernel
theorem d_M_call_112 : decode b_M_call 112 = .ok (.iload 5, 2) := by decide +kernel
theorem d_M_call_114 : decode b_M_call 114 = .ok (.goto 7, 3) := by decide +kernel
theorem d_M_call_117 : decode b_M_call 117 = .ok (.aload_n 0, 1) := by decide +kernel
theorem d_M_call_118 : decode b_M_call 118 = .ok (.getfield 88, 3) := by decide +kernel
theorem d_M_call_121 : decode b_M_call 121 = .ok (.istore 4, 2) := by decide +kernel
theorem d_M_call_123 : decode b_M_call 123 = .ok (.iload 5, 2) := by decide +kernel
theorem d_M_call_125 : decode b_M_call 125 = .ok (.ifCond .ge 29, 3) := by decide +kernel
theorem d_M_call_128 : decode b_M_call 128 = .ok (.aload_n 0, 1) := by decide +kernel
theorem d_M_call_129 : decode b_M_call 129 = .ok (.getfield 47, 3) := by decide +kernel
theorem d_M_call_132 : decode b_M_call 132 = .ok (.iload 4, 2) := by decide +kernel
theorem d_M_call_134 : decode b_M_call 134 = .ok (.iload_n 1, 1) := by decide +kernel
theorem d_M_call_135 : decode b_M_call 135 = .ok (.iastore, 1) := by decide +kernel
theorem d_M_call_136 : decode b_M_call 136 = .ok (.aload_n 0, 1) := by decide +kernel
theorem d_M_call_137 : decode b_M_call 137 = .ok (.getfield 72, 3) := by decide +kernel
theorem d_M_call_140 : decode b_M_call 140 = .ok (.iload 4, 2) := by decide +kernel
theorem d_M_call_142 : decode b_M_call 142 = .ok (.iconst (-1), 1) := by decide +kernel
theorem d_M_call_143 : decode b_M_call 143 = .ok (.iastore, 1) := by decide +kernel
theorem d_M_call_144 : decode b_M_call 144 = .ok (.aload_n 0, 1) := by decide +kernel
theorem d_M_call_145 : decode b_M_call 145 = .ok (.dup, 1) := by decide +kernel
theorem d_M_call_146 : decode b_M_call 146 = .ok (.getfield 88, 3) := by decide +kernel
theorem d_M_call_149 : decode b_M_call 149 = .ok (.iconst 1, 1) := by decide +kernel
theorem d_M_call_150 : decode b_M_call 150 = .ok (.iadd, 1) := by decide +kernel
theorem d_M_call_151 : decode b_M_call 151 = .ok (.putfield 88, 3) := by decide +kernel
theorem d_M_call_154 : decode b_M_call 154 = .ok (.aload_n 0, 1) := by decide +kernel
theorem d_M_call_155 : decode b_M_call 155 = .ok (.getfield 50, 3) := by decide +kernel
theorem d_M_call_158 : decode b_M_call 158 = .ok (.iload 4, 2) := by decide +kernel
theorem d_M_call_160 : decode b_M_call 160 = .ok (.iconst 1, 1) := by decide +kernel
theorem d_M_call_161 : decode b_M_call 161 = .ok (.bastore, 1) := by decide +kernel
theorem d_M_call_162 : decode b_M_call 162 = .ok (.aload_n 0, 1) := by decide +kernel
theorem d_M_call_163 : decode b_M_call 163 = .ok (.getfield 54, 3) := by decide +kernel
theorem d_M_call_166 : decode b_M_call 166 = .ok (.iload 4, 2) := by decide +kernel
theorem d_M_call_168 : decode b_M_call 168 = .ok (.iconst 0, 1) := by decide +kernel
theorem d_M_call_169 : decode b_M_call 169 = .ok (.bastore, 1) := by decide +kernel
theorem d_M_call_170 : decode b_M_call 170 = .ok (.aload_n 0, 1) := by decide +kernel
theorem d_M_call_171 : decode b_M_call 171 = .ok (.getfield 57, 3) := by decide +kernel
theorem d_M_call_174 : decode b_M_call 174 = .ok (.iload 4, 2) := by decide +kernel
theorem d_M_call_176 : decode b_M_call 176 = .ok (.iconst 0, 1) := by decide +kernel
theorem d_M_call_177 : decode b_M_call 177 = .ok (.iastore, 1) := by decide +kernel
theorem d_M_call_178 : decode b_M_call 178 = .ok (.aload_n 0, 1) := by decide +kernel
theorem d_M_call_179 : decode b_M_call 179 = .ok (.getfield 60, 3) := by decide +kernel
theorem d_M_call_182 : decode b_M_call 182 = .ok (.iload 4, 2) := by decide +kernel
theorem d_M_call_184 : decode b_M_call 184 = .ok (.iconst 0, 1) := by decide +kernel
theorem d_M_call_185 : decode b_M_call 185 = .ok (.iastore, 1) := by decide +kernel
theorem d_M_call_186 : decode b_M_call 186 = .ok (.aload_n 0, 1) := by decide +kernel
theorem d_M_call_187 : decode b_M_call 187 = .ok (.getfield 63, 3) := by decide +kernel
theorem d_M_call_190 : decode b_M_call 190 = .ok (.iload 4, 2) := by decide +kernel
theorem d_M_call_192 : decode b_M_call 192 = .ok (.iconst (-1), 1) := by decide +kernel
theorem d_M_call_193 : decode b_M_call 193 = .ok (.iastore, 1) := by decide +kernel
theorem d_M_call_194 : decode b_M_call 194 = .ok (.aload_n 0, 1) := by decide +kernel
theorem d_M_call_195 : decode b_M_call 195 = .ok (.getfield 66, 3) := by decide +kernel
theorem d_M_call_198 : decode b_M_call 198 = .ok (.iload 4, 2) := by decide +kernel
theorem d_M_call_200 : decode b_M_call 200 = .ok (.dup2, 1) := by decide +kernel
theorem d_M_call_201 : decode b_M_call 201 = .ok (.iaload, 1) := by decide +kernel
theorem d_M_call_202 : decode b_M_call 202 = .ok (.iconst 1, 1) := by decide +kernel
theorem d_M_call_203 : decode b_M_call 203 = .ok (.iadd, 1) := by decide +kernel
theorem d_M_call_204 : decode b_M_call 204 = .ok (.iastore, 1) := by decide +kernel
theorem d_M_call_205 : decode b_M_call 205 = .ok (.iload_n 2, 1) := by decide +kernel
theorem d_M_call_206 : decode b_M_call 206 = .ok (.ifCond .eq 24, 3) := by decide +kernel
theorem d_M_call_209 : decode b_M_call 209 = .ok (.aload_n 0, 1) := by decide +kernel
theorem d_M_call_210 : decode b_M_call 210 = .ok (.getfield 75, 3) := by decide +kernel
theorem d_M_call_213 : decode b_M_call 213 = .ok (.aload_n 0, 1) := by decide +kernel
theorem d_M_call_214 : decode b_M_call 214 = .ok (.getfield 121, 3) := by decide +kernel
theorem d_M_call_217 : decode b_M_call 217 = .ok (.iload 4, 2) := by decide +kernel
theorem d_M_call_219 : decode b_M_call 219 = .ok (.iastore, 1) := by decide +kernel
theorem d_M_call_220 : decode b_M_call 220 = .ok (.aload_n 0, 1) := by decide +kernel
theorem d_M_call_221 : decode b_M_call 221 = .ok (.dup, 1) := by decide +kernel
theorem d_M_call_222 : decode b_M_call 222 = .ok (.getfield 121, 3) := by decide +kernel
theorem d_M_call_225 : decode b_M_call 225 = .ok (.iconst 1, 1) := by decide +kernel
theorem d_M_call_226 : decode b_M_call 226 = .ok (.iadd, 1) := by decide +kernel
theorem d_M_call_227 : decode b_M_call 227 = .ok (.putfield 121, 3) := by decide +kernel
theorem d_M_call_230 : decode b_M_call 230 = .ok (.aload_n 0, 1) := by decide +kernel
theorem d_M_call_231 : decode b_M_call 231 = .ok (.invokevirtual 103, 3) := by decide +kernel
theorem d_M_call_234 : decode b_M_call 234 = .ok (.pop, 1) := by decide +kernel
theorem d_M_call_235 : decode b_M_call 235 = .ok (.iload 4, 2) := by decide +kernel
theorem d_M_call_237 : decode b_M_call 237 = .ok (.ireturn, 1) := by decide +kernel
theorem d_M_send_0 : decode b_M_send 0 = .ok (.aload_n 0, 1) := by decide +kernel
theorem d_M_send_1 : decode b_M_send 1 = .ok (.iload_n 1, 1) := by decide +kernel
theorem d_M_send_2 : decode b_M_send 2 = .ok (.invokevirtual 107, 3) := by decide +kernel
theorem d_M_send_5 : decode b_M_send 5 = .ok (.ifCond .eq 11, 3) := by decide +kernel
theorem d_M_send_8 : decode b_M_send 8 = .ok (.aload_n 0, 1) := by decide +kernel
theorem d_M_send_9 : decode b_M_send 9 = .ok (.iload_n 2, 1) := by decide +kernel
theorem d_M_send_10 : decode b_M_send 10 = .ok (.invokevirtual 91, 3) := by decide +kernel
theorem d_M_send_13 : decode b_M_send 13 = .ok (.ifCond .ne 7, 3) := by decide +kernel
theorem d_M_send_16 : decode b_M_send 16 = .ok (.iconst 1, 1) := by decide +kernel
theorem d_M_send_17 : decode b_M_send 17 = .ok (.goto 4, 3) := by decide +kernel
theorem d_M_send_20 : decode b_M_send 20 = .ok (.iconst 0, 1) := by decide +kernel
theorem d_M_send_21 : decode b_M_send 21 = .ok (.istore_n 3, 1) := by decide +kernel
theorem d_M_send_22 : decode b_M_send 22 = .ok (.aload_n 0, 1) := by decide +kernel
theorem d_M_send_23 : decode b_M_send 23 = .ok (.iload_n 3, 1) := by decide +kernel
theorem d_M_send_24 : decode b_M_send 24 = .ok (.iload_n 3, 1) := by decide +kernel
theorem d_M_send_25 : decode b_M_send 25 = .ok (.ifCond .ne 25, 3) := by decide +kernel
theorem d_M_send_28 : decode b_M_send 28 = .ok (.aload_n 0, 1) := by decide +kernel
theorem d_M_send_29 : decode b_M_send 29 = .ok (.getfield 26, 3) := by decide +kernel
theorem d_M_send_32 : decode b_M_send 32 = .ok (.iload_n 1, 1) := by decide +kernel
theorem d_M_send_33 : decode b_M_send 33 = .ok (.iaload, 1) := by decide +kernel
theorem d_M_send_34 : decode b_M_send 34 = .ok (.ifCond .ne 12, 3) := by decide +kernel
theorem d_M_send_37 : decode b_M_send 37 = .ok (.aload_n 0, 1) := by decide +kernel
theorem d_M_send_38 : decode b_M_send 38 = .ok (.getfield 50, 3) := by decide +kernel
theorem d_M_send_41 : decode b_M_send 41 = .ok (.iload_n 2, 1) := by decide +kernel
theorem d_M_send_42 : decode b_M_send 42 = .ok (.baload, 1) := by decide +kernel
theorem d_M_send_43 : decode b_M_send 43 = .ok (.ifCond .ne 7, 3) := by decide +kernel
theorem d_M_send_46 : decode b_M_send 46 = .ok (.iconst 1, 1) := by decide +kernel
theorem d_M_send_47 : decode b_M_send 47 = .ok (.goto 4, 3) := by decide +kernel
theorem d_M_send_50 : decode b_M_send 50 = .ok (.iconst 0, 1) := by decide +kernel
theorem d_M_send_51 : decode b_M_send 51 = .ok (.iconst 0, 1) := by decide +kernel
theorem d_M_send_52 : decode b_M_send 52 = .ok (.iconst 0, 1) := by decide +kernel
theorem d_M_send_53 : decode b_M_send 53 = .ok (.invokevirtual 96, 3) := by decide +kernel
theorem d_M_send_56 : decode b_M_send 56 = .ok (.ifCond .eq 4, 3) := by decide +kernel
theorem d_M_send_59 : decode b_M_send 59 = .ok (.return_, 1) := by decide +kernel
theorem d_M_send_60 : decode b_M_send 60 = .ok (.aload_n 0, 1) := by decide +kernel
theorem d_M_send_61 : decode b_M_send 61 = .ok (.iload_n 1, 1) := by decide +kernel
theorem d_M_send_62 : decode b_M_send 62 = .ok (.iload_n 2, 1) := by decide +kernel
theorem d_M_send_63 : decode b_M_send 63 = .ok (.invokevirtual 124, 3) := by decide +kernel
theorem d_M_send_66 : decode b_M_send 66 = .ok (.aload_n 0, 1) := by decide +kernel
theorem d_M_send_67 : decode b_M_send 67 = .ok (.invokevirtual 103, 3) := by decide +kernel
theorem d_M_send_70 : decode b_M_send 70 = .ok (.pop, 1) := by decide +kernel
theorem d_M_send_71 : decode b_M_send 71 = .ok (.return_, 1) := by decide +kernel
theorem d_M_release_0 : decode b_M_release 0 = .ok (.aload_n 0, 1) := by decide +kernel
theorem d_M_release_1 : decode b_M_release 1 = .ok (.aload_n 0, 1) := by decide +kernel
theorem d_M_release_2 : decode b_M_release 2 = .ok (.iload_n 1, 1) := by decide +kernel
theorem d_M_release_3 : decode b_M_release 3 = .ok (.invokevirtual 91, 3) := by decide +kernel
theorem d_M_release_6 : decode b_M_release 6 = .ok (.ifCond .ne 7, 3) := by decide +kernel
theorem d_M_release_9 : decode b_M_release 9 = .ok (.iconst 1, 1) := by decide +kernel
theorem d_M_release_10 : decode b_M_release 10 = .ok (.goto 4, 3) := by decide +kernel
theorem d_M_release_13 : decode b_M_release 13 = .ok (.iconst 0, 1) := by decide +kernel
theorem d_M_release_14 : decode b_M_release 14 = .ok (.iload_n 2, 1) := by decide +kernel
theorem d_M_release_15 : decode b_M_release 15 = .ok (.iconst 1, 1) := by decide +kernel
theorem d_M_release_16 : decode b_M_release 16 = .ok (.bipush 24, 2) := by decide +kernel
theorem d_M_release_18 : decode b_M_release 18 = .ok (.invokestatic 84, 3) := by decide +kernel
theorem d_M_release_21 : decode b_M_release 21 = .ok (.ifCond .ne 7, 3) := by decide +kernel
theorem d_M_release_24 : decode b_M_release 24 = .ok (.iconst 1, 1) := by decide +kernel
theorem d_M_release_25 : decode b_M_release 25 = .ok (.goto 4, 3) := by decide +kernel
theorem d_M_release_28 : decode b_M_release 28 = .ok (.iconst 0, 1) := by decide +kernel
theorem d_M_release_29 : decode b_M_release 29 = .ok (.aload_n 0, 1) := by decide +kernel
theorem d_M_release_30 : decode b_M_release 30 = .ok (.iload_n 1, 1) := by decide +kernel
theorem d_M_release_31 : decode b_M_release 31 = .ok (.invokevirtual 150, 3) := by decide +kernel
theorem d_M_release_34 : decode b_M_release 34 = .ok (.iconst 0, 1) := by decide +kernel
theorem d_M_release_35 : decode b_M_release 35 = .ok (.invokevirtual 96, 3) := by decide +kernel
theorem d_M_release_38 : decode b_M_release 38 = .ok (.ifCond .eq 5, 3) := by decide +kernel
theorem d_M_release_41 : decode b_M_release 41 = .ok (.iconst 0, 1) := by decide +kernel
theorem d_M_release_42 : decode b_M_release 42 = .ok (.ireturn, 1) := by decide +kernel
theorem d_M_release_43 : decode b_M_release 43 = .ok (.iconst 0, 1) := by decide +kernel
theorem d_M_release_44 : decode b_M_release 44 = .ok (.istore_n 3, 1) := by decide +kernel
theorem d_M_release_45 : decode b_M_release 45 = .ok (.iconst 0, 1) := by decide +kernel
theorem d_M_release_46 : decode b_M_release 46 = .ok (.istore 4, 2) := by decide +kernel
theorem d_M_release_48 : decode b_M_release 48 = .ok (.iload_n 3, 1) := by decide +kernel
theorem d_M_release_49 : decode b_M_release 49 = .ok (.iload_n 2, 1) := by decide +kernel
theorem d_M_release_50 : decode b_M_release 50 = .ok (.if_icmp .ge 96, 3) := by decide +kernel
theorem d_M_release_53 : decode b_M_release 53 = .ok (.iload 4, 2) := by decide +kernel
theorem d_M_release_55 : decode b_M_release 55 = .ok (.ifCond .lt 91, 3) := by decide +kernel
theorem d_M_release_58 : decode b_M_release 58 = .ok (.iconst (-1), 1) := by decide +kernel
theorem d_M_release_59 : decode b_M_release 59 = .ok (.istore 4, 2) := by decide +kernel
theorem d_M_release_61 : decode b_M_release 61 = .ok (.iconst 0, 1) := by decide +kernel
theorem d_M_release_62 : decode b_M_release 62 = .ok (.istore 5, 2) := by decide +kernel
theorem d_M_release_64 : decode b_M_release 64 = .ok (.iload 5, 2) := by decide +kernel
theorem d_M_release_66 : decode b_M_release 66 = .ok (.aload_n 0, 1) := by decide +kernel
theorem d_M_release_67 : decode b_M_release 67 = .ok (.getfield 81, 3) := by decide +kernel
theorem d_M_release_70 : decode b_M_release 70 = .ok (.if_icmp .ge 57, 3) := by decide +kernel
theorem d_M_release_73 : decode b_M_release 73 = .ok (.aload_n 0, 1) := by decide +kernel
theorem d_M_release_74 : decode b_M_release 74 = .ok (.getfield 26, 3) := by decide +kernel
theorem d_M_release_77 : decode b_M_release 77 = .ok (.iload 5, 2) := by decide +kernel
theorem d_M_release_79 : decode b_M_release 79 = .ok (.iaload, 1) := by decide +kernel
theorem d_M_release_80 : decode b_M_release 80 = .ok (.iconst 1, 1) := by decide +kernel
theorem d_M_release_81 : decode b_M_release 81 = .ok (.if_icmp .ne 40, 3) := by decide +kernel
theorem d_M_release_84 : decode b_M_release 84 = .ok (.aload_n 0, 1) := by decide +kernel
theorem d_M_release_85 : decode b_M_release 85 = .ok (.getfield 29, 3) := by decide +kernel
theorem d_M_release_88 : decode b_M_release 88 = .ok (.iload 5, 2) := by decide +kernel
theorem d_M_release_90 : decode b_M_release 90 = .ok (.iaload, 1) := by decide +kernel
theorem d_M_release_91 : decode b_M_release 91 = .ok (.iload_n 1, 1) := by decide +kernel
theorem d_M_release_92 : decode b_M_release 92 = .ok (.if_icmp .ne 29, 3) := by decide +kernel
theorem d_M_release_95 : decode b_M_release 95 = .ok (.iload 4, 2) := by decide +kernel
theorem d_M_release_97 : decode b_M_release 97 = .ok (.ifCond .lt 20, 3) := by decide +kernel
theorem d_M_release_100 : decode b_M_release 100 = .ok (.aload_n 0, 1) := by decide +kernel
theorem d_M_release_101 : decode b_M_release 101 = .ok (.getfield 13, 3) := by decide +kernel
theorem d_M_release_104 : decode b_M_release 104 = .ok (.iload 5, 2) := by decide +kernel
theorem d_M_release_106 : decode b_M_release 106 = .ok (.iaload, 1) := by decide +kernel
theorem d_M_release_107 : decode b_M_release 107 = .ok (.aload_n 0, 1) := by decide +kernel
theorem d_M_release_108 : decode b_M_release 108 = .ok (.getfield 13, 3) := by decide +kernel
theorem d_M_release_111 : decode b_M_release 111 = .ok (.iload 4, 2) := by decide +kernel
theorem d_M_release_113 : decode b_M_release 113 = .ok (.iaload, 1) := by decide +kernel
theorem d_M_release_114 : decode b_M_release 114 = .ok (.if_icmp .le 7, 3) := by decide +kernel
theorem d_M_release_117 : decode b_M_release 117 = .ok (.iload 5, 2) := by decide +kernel
theorem d_M_release_119 : decode b_M_release 119 = .ok (.istore 4, 2) := by decide +kernel
theorem d_M_release_121 : decode b_M_release 121 = .ok (.iinc 5 1, 3) := by decide +kernel
theorem d_M_release_124 : decode b_M_release 124 = .ok (.goto (-60), 3) := by decide +kernel
theorem d_M_release_127 : decode b_M_release 127 = .ok (.iload 4, 2) := by decide +kernel
theorem d_M_release_129 : decode b_M_release 129 = .ok (.ifCond .lt (-81), 3) := by decide +kernel
theorem d_M_release_132 : decode b_M_release 132 = .ok (.aload_n 0, 1) := by decide +kernel
theorem d_M_release_133 : decode b_M_release 133 = .ok (.iload 4, 2) := by decide +kernel
theorem d_M_release_135 : decode b_M_release 135 = .ok (.iconst 2, 1) := by decide +kernel
theorem d_M_release_136 : decode b_M_release 136 = .ok (.iconst (-1), 1) := by decide +kernel
theorem d_M_release_137 : decode b_M_release 137 = .ok (.invokevirtual 111, 3) := by decide +kernel
theorem d_M_release_140 : decode b_M_release 140 = .ok (.iinc 3 1, 3) := by decide +kernel
theorem d_M_release_143 : decode b_M_release 143 = .ok (.goto (-95), 3) := by decide +kernel
theorem d_M_release_146 : decode b_M_release 146 = .ok (.aload_n 0, 1) := by decide +kernel
theorem d_M_release_147 : decode b_M_release 147 = .ok (.invokevirtual 103, 3) := by decide +kernel
theorem d_M_release_150 : decode b_M_release 150 = .ok (.pop, 1) := by decide +kernel
theorem d_M_release_151 : decode b_M_release 151 = .ok (.iload_n 3, 1) := by decide +kernel
theorem d_M_release_152 : decode b_M_release 152 = .ok (.ireturn, 1) := by decide +kernel
theorem d_M_back_0 : decode b_M_back 0 = .ok (.aload_n 0, 1) := by decide +kernel
theorem d_M_back_1 : decode b_M_back 1 = .ok (.iload_n 1, 1) := by decide +kernel
theorem d_M_back_2 : decode b_M_back 2 = .ok (.invokevirtual 107, 3) := by decide +kernel
theorem d_M_back_5 : decode b_M_back 5 = .ok (.ifCond .ne 7, 3) := by decide +kernel
theorem d_M_back_8 : decode b_M_back 8 = .ok (.iconst 1, 1) := by decide +kernel
theorem d_M_back_9 : decode b_M_back 9 = .ok (.goto 4, 3) := by decide +kernel
theorem d_M_back_12 : decode b_M_back 12 = .ok (.iconst 0, 1) := by decide +kernel
theorem d_M_back_13 : decode b_M_back 13 = .ok (.istore_n 2, 1) := by decide +kernel
theorem d_M_back_14 : decode b_M_back 14 = .ok (.aload_n 0, 1) := by decide +kernel
theorem d_M_back_15 : decode b_M_back 15 = .ok (.iload_n 2, 1) := by decide +kernel
theorem d_M_back_16 : decode b_M_back 16 = .ok (.iload_n 2, 1) := by decide +kernel
theorem d_M_back_17 : decode b_M_back 17 = .ok (.ifCond .ne 17, 3) := by decide +kernel
theorem d_M_back_20 : decode b_M_back 20 = .ok (.aload_n 0, 1) := by decide +kernel
theorem d_M_back_21 : decode b_M_back 21 = .ok (.getfield 26, 3) := by decide +kernel
theorem d_M_back_24 : decode b_M_back 24 = .ok (.iload_n 1, 1) := by decide +kernel
theorem d_M_back_25 : decode b_M_back 25 = .ok (.iaload, 1) := by decide +kernel
theorem d_M_back_26 : decode b_M_back 26 = .ok (.iconst 2, 1) := by decide +kernel
theorem d_M_back_27 : decode b_M_back 27 = .ok (.if_icmp .eq 7, 3) := by decide +kernel
theorem d_M_back_30 : decode b_M_back 30 = .ok (.iconst 1, 1) := by decide +kernel
theorem d_M_back_31 : decode b_M_back 31 = .ok (.goto 4, 3) := by decide +kernel
theorem d_M_back_34 : decode b_M_back 34 = .ok (.iconst 0, 1) := by decide +kernel
theorem d_M_back_35 : decode b_M_back 35 = .ok (.iconst 0, 1) := by decide +kernel
theorem d_M_back_36 : decode b_M_back 36 = .ok (.iconst 0, 1) := by decide +kernel
theorem d_M_back_37 : decode b_M_back 37 = .ok (.invokevirtual 96, 3) := by decide +kernel
theorem d_M_back_40 : decode b_M_back 40 = .ok (.ifCond .eq 4, 3) := by decide +kernel
theorem d_M_back_43 : decode b_M_back 43 = .ok (.return_, 1) := by decide +kernel
theorem d_M_back_44 : decode b_M_back 44 = .ok (.aload_n 0, 1) := by decide +kernel
theorem d_M_back_45 : decode b_M_back 45 = .ok (.iload_n 1, 1) := by decide +kernel
theorem d_M_back_46 : decode b_M_back 46 = .ok (.iconst 3, 1) := by decide +kernel
theorem d_M_back_47 : decode b_M_back 47 = .ok (.iconst (-1), 1) := by decide +kernel
theorem d_M_back_48 : decode b_M_back 48 = .ok (.invokevirtual 111, 3) := by decide +kernel
theorem d_M_back_51 : decode b_M_back 51 = .ok (.aload_n 0, 1) := by decide +kernel
theorem d_M_back_52 : decode b_M_back 52 = .ok (.invokevirtual 103, 3) := by decide +kernel
theorem d_M_back_55 : decode b_M_back 55 = .ok (.pop, 1) := by decide +kernel
theorem d_M_back_56 : decode b_M_back 56 = .ok (.return_, 1) := by decide +kernel
theorem d_M_use_0 : decode b_M_use 0 = .ok (.aload_n 0, 1) := by decide +kernel
theorem d_M_use_1 : decode b_M_use 1 = .ok (.iload_n 1, 1) := by decide +kernel
theorem d_M_use_2 : decode b_M_use 2 = .ok (.invokevirtual 107, 3) := by decide +kernel
theorem d_M_use_5 : decode b_M_use 5 = .ok (.ifCond .eq 10, 3) := by decide +kernel
theorem d_M_use_8 : decode b_M_use 8 = .ok (.iload_n 2, 1) := by decide +kernel
theorem d_M_use_9 : decode b_M_use 9 = .ok (.invokestatic 153, 3) := by decide +kernel
theorem d_M_use_12 : decode b_M_use 12 = .ok (.ifCond .ne 7, 3) := by decide +kernel
theorem d_M_use_15 : decode b_M_use 15 = .ok (.iconst 1, 1) := by decide +kernel
theorem d_M_use_16 : decode b_M_use 16 = .ok (.goto 4, 3) := by decide +kernel
theorem d_M_use_19 : decode b_M_use 19 = .ok (.iconst 0, 1) := by decide +kernel
theorem d_M_use_20 : decode b_M_use 20 = .ok (.istore 4, 2) := by decide +kernel
theorem d_M_use_22 : decode b_M_use 22 = .ok (.iload_n 3, 1) := by decide +kernel
theorem d_M_use_23 : decode b_M_use 23 = .ok (.iconst 1, 1) := by decide +kernel
theorem d_M_use_24 : decode b_M_use 24 = .ok (.sipush 1000, 3) := by decide +kernel
theorem d_M_use_27 : decode b_M_use 27 = .ok (.invokestatic 84, 3) := by decide +kernel
theorem d_M_use_30 : decode b_M_use 30 = .ok (.ifCond .ne 7, 3) := by decide +kernel
theorem d_M_use_33 : decode b_M_use 33 = .ok (.iconst 1, 1) := by decide +kernel
theorem d_M_use_34 : decode b_M_use 34 = .ok (.goto 4, 3) := by decide +kernel
theorem d_M_use_37 : decode b_M_use 37 = .ok (.iconst 0, 1) := by decide +kernel
theorem d_M_use_38 : decode b_M_use 38 = .ok (.istore 5, 2) := by decide +kernel
theorem d_M_use_40 : decode b_M_use 40 = .ok (.iload 4, 2) := by decide +kernel
theorem d_M_use_42 : decode b_M_use 42 = .ok (.ifCond .ne 27, 3) := by decide +kernel
theorem d_M_use_45 : decode b_M_use 45 = .ok (.aload_n 0, 1) := by decide +kernel
theorem d_M_use_46 : decode b_M_use 46 = .ok (.getfield 26, 3) := by decide +kernel
theorem d_M_use_49 : decode b_M_use 49 = .ok (.iload_n 1, 1) := by decide +kernel
theorem d_M_use_50 : decode b_M_use 50 = .ok (.iaload, 1) := by decide +kernel
theorem d_M_use_51 : decode b_M_use 51 = .ok (.iconst 1, 1) := by decide +kernel
theorem d_M_use_52 : decode b_M_use 52 = .ok (.if_icmp .eq 17, 3) := by decide +kernel
theorem d_M_use_55 : decode b_M_use 55 = .ok (.aload_n 0, 1) := by decide +kernel
theorem d_M_use_56 : decode b_M_use 56 = .ok (.getfield 26, 3) := by decide +kernel
theorem d_M_use_59 : decode b_M_use 59 = .ok (.iload_n 1, 1) := by decide +kernel
theorem d_M_use_60 : decode b_M_use 60 = .ok (.iaload, 1) := by decide +kernel
theorem d_M_use_61 : decode b_M_use 61 = .ok (.iconst 2, 1) := by decide +kernel
theorem d_M_use_62 : decode b_M_use 62 = .ok (.if_icmp .eq 7, 3) := by decide +kernel
theorem d_M_use_65 : decode b_M_use 65 = .ok (.iconst 1, 1) := by decide +kernel
theorem d_M_use_66 : decode b_M_use 66 = .ok (.goto 4, 3) := by decide +kernel
theorem d_M_use_69 : decode b_M_use 69 = .ok (.iconst 0, 1) := by decide +kernel
theorem d_M_use_70 : decode b_M_use 70 = .ok (.istore 6, 2) := by decide +kernel
theorem d_M_use_72 : decode b_M_use 72 = .ok (.aload_n 0, 1) := by decide +kernel
theorem d_M_use_73 : decode b_M_use 73 = .ok (.iload 4, 2) := by decide +kernel
theorem d_M_use_75 : decode b_M_use 75 = .ok (.iload 5, 2) := by decide +kernel
theorem d_M_use_77 : decode b_M_use 77 = .ok (.iload 6, 2) := by decide +kernel
theorem d_M_use_79 : decode b_M_use 79 = .ok (.iload 4, 2) := by decide +kernel
theorem d_M_use_81 : decode b_M_use 81 = .ok (.ifCond .ne 30, 3) := by decide +kernel
theorem d_M_use_84 : decode b_M_use 84 = .ok (.iload 5, 2) := by decide +kernel
theorem d_M_use_86 : decode b_M_use 86 = .ok (.ifCond .ne 25, 3) := by decide +kernel
theorem d_M_use_89 : decode b_M_use 89 = .ok (.aload_n 0, 1) := by decide +kernel
theorem d_M_use_90 : decode b_M_use 90 = .ok (.getfield 41, 3) := by decide +kernel
theorem d_M_use_93 : decode b_M_use 93 = .ok (.bipush 6, 2) := by decide +kernel
theorem d_M_use_95 : decode b_M_use 95 = .ok (.iload_n 1, 1) := by decide +kernel
theorem d_M_use_96 : decode b_M_use 96 = .ok (.imul, 1) := by decide +kernel
theorem d_M_use_97 : decode b_M_use 97 = .ok (.iload_n 2, 1) := by decide +kernel
theorem d_M_use_98 : decode b_M_use 98 = .ok (.iadd, 1) := by decide +kernel
theorem d_M_use_99 : decode b_M_use 99 = .ok (.iaload, 1) := by decide +kernel
theorem d_M_use_100 : decode b_M_use 100 = .ok (.iload_n 3, 1) := by decide +kernel
theorem d_M_use_101 : decode b_M_use 101 = .ok (.iadd, 1) := by decide +kernel
theorem d_M_use_102 : decode b_M_use 102 = .ok (.ldc 110, 2) := by decide +kernel
theorem d_M_use_104 : decode b_M_use 104 = .ok (.if_icmp .le 7, 3) := by decide +kernel
theorem d_M_use_107 : decode b_M_use 107 = .ok (.iconst 1, 1) := by decide +kernel
theorem d_M_use_108 : decode b_M_use 108 = .ok (.goto 4, 3) := by decide +kernel
theorem d_M_use_111 : decode b_M_use 111 = .ok (.iconst 0, 1) := by decide +kernel
theorem d_M_use_112 : decode b_M_use 112 = .ok (.invokevirtual 96, 3) := by decide +kernel
theorem d_M_use_115 : decode b_M_use 115 = .ok (.ifCond .eq 5, 3) := by decide +kernel
theorem d_M_use_118 : decode b_M_use 118 = .ok (.iconst 0, 1) := by decide +kernel
theorem d_M_use_119 : decode b_M_use 119 = .ok (.ireturn, 1) := by decide +kernel
theorem d_M_use_120 : decode b_M_use 120 = .ok (.aload_n 0, 1) := by decide +kernel
theorem d_M_use_121 : decode b_M_use 121 = .ok (.getfield 41, 3) := by decide +kernel
theorem d_M_use_124 : decode b_M_use 124 = .ok (.bipush 6, 2) := by decide +kernel
theorem d_M_use_126 : decode b_M_use 126 = .ok (.iload_n 1, 1) := by decide +kernel
theorem d_M_use_127 : decode b_M_use 127 = .ok (.imul, 1) := by decide +kernel
theorem d_M_use_128 : decode b_M_use 128 = .ok (.iload_n 2, 1) := by decide +kernel
theorem d_M_use_129 : decode b_M_use 129 = .ok (.iadd, 1) := by decide +kernel
theorem d_M_use_130 : decode b_M_use 130 = .ok (.dup2, 1) := by decide +kernel
theorem d_M_use_131 : decode b_M_use 131 = .ok (.iaload, 1) := by decide +kernel
theorem d_M_use_132 : decode b_M_use 132 = .ok (.iload_n 3, 1) := by decide +kernel
theorem d_M_use_133 : decode b_M_use 133 = .ok (.iadd, 1) := by decide +kernel
theorem d_M_use_134 : decode b_M_use 134 = .ok (.iastore, 1) := by decide +kernel
theorem d_M_use_135 : decode b_M_use 135 = .ok (.aload_n 0, 1) := by decide +kernel
theorem d_M_use_136 : decode b_M_use 136 = .ok (.getfield 41, 3) := by decide +kernel
theorem d_M_use_139 : decode b_M_use 139 = .ok (.bipush 6, 2) := by decide +kernel
theorem d_M_use_141 : decode b_M_use 141 = .ok (.iload_n 1, 1) := by decide +kernel
theorem d_M_use_142 : decode b_M_use 142 = .ok (.imul, 1) := by decide +kernel
theorem d_M_use_143 : decode b_M_use 143 = .ok (.iload_n 2, 1) := by decide +kernel
theorem d_M_use_144 : decode b_M_use 144 = .ok (.iadd, 1) := by decide +kernel
theorem d_M_use_145 : decode b_M_use 145 = .ok (.iaload, 1) := by decide +kernel
theorem d_M_use_146 : decode b_M_use 146 = .ok (.ireturn, 1) := by decide +kernel
theorem d_M_deliver_0 : decode b_M_deliver 0 = .ok (.iload_n 1, 1) := by decide +kernel
theorem d_M_deliver_1 : decode b_M_deliver 1 = .ok (.invokestatic 153, 3) := by decide +kernel
theorem d_M_deliver_4 : decode b_M_deliver 4 = .ok (.ifCond .ne 7, 3) := by decide +kernel
theorem d_M_deliver_7 : decode b_M_deliver 7 = .ok (.iconst 1, 1) := by decide +kernel
theorem d_M_deliver_8 : decode b_M_deliver 8 = .ok (.goto 4, 3) := by decide +kernel
theorem d_M_deliver_11 : decode b_M_deliver 11 = .ok (.iconst 0, 1) := by decide +kernel
theorem d_M_deliver_12 : decode b_M_deliver 12 = .ok (.istore_n 3, 1) := by decide +kernel
theorem d_M_deliver_13 : decode b_M_deliver 13 = .ok (.iload_n 2, 1) := by decide +kernel
theorem d_M_deliver_14 : decode b_M_deliver 14 = .ok (.iconst 0, 1) := by decide +kernel
theorem d_M_deliver_15 : decode b_M_deliver 15 = .ok (.ldc 110, 2) := by decide +kernel
theorem d_M_deliver_17 : decode b_M_deliver 17 = .ok (.invokestatic 84, 3) := by decide +kernel
theorem d_M_deliver_20 : decode b_M_deliver 20 = .ok (.ifCond .ne 7, 3) := by decide +kernel
theorem d_M_deliver_23 : decode b_M_deliver 23 = .ok (.iconst 1, 1) := by decide +kernel
theorem d_M_deliver_24 : decode b_M_deliver 24 = .ok (.goto 4, 3) := by decide +kernel
theorem d_M_deliver_27 : decode b_M_deliver 27 = .ok (.iconst 0, 1) := by decide +kernel
theorem d_M_deliver_28 : decode b_M_deliver 28 = .ok (.istore 4, 2) := by decide +kernel
theorem d_M_deliver_30 : decode b_M_deliver 30 = .ok (.aload_n 0, 1) := by decide +kernel
theorem d_M_deliver_31 : decode b_M_deliver 31 = .ok (.iload_n 3, 1) := by decide +kernel
theorem d_M_deliver_32 : decode b_M_deliver 32 = .ok (.iload 4, 2) := by decide +kernel
theorem d_M_deliver_34 : decode b_M_deliver 34 = .ok (.iload_n 3, 1) := by decide +kernel
theorem d_M_deliver_35 : decode b_M_deliver 35 = .ok (.ifCond .ne 25, 3) := by decide +kernel
theorem d_M_deliver_38 : decode b_M_deliver 38 = .ok (.iload 4, 2) := by decide +kernel
theorem d_M_deliver_40 : decode b_M_deliver 40 = .ok (.ifCond .ne 20, 3) := by decide +kernel
theorem d_M_deliver_43 : decode b_M_deliver 43 = .ok (.aload_n 0, 1) := by decide +kernel
theorem d_M_deliver_44 : decode b_M_deliver 44 = .ok (.getfield 44, 3) := by decide +kernel
theorem d_M_deliver_47 : decode b_M_deliver 47 = .ok (.iload_n 1, 1) := by decide +kernel
theorem d_M_deliver_48 : decode b_M_deliver 48 = .ok (.iaload, 1) := by decide +kernel
theorem d_M_deliver_49 : decode b_M_deliver 49 = .ok (.iload_n 2, 1) := by decide +kernel
theorem d_M_deliver_50 : decode b_M_deliver 50 = .ok (.iadd, 1) := by decide +kernel
theorem d_M_deliver_51 : decode b_M_deliver 51 = .ok (.ldc 156, 2) := by decide +kernel
theorem d_M_deliver_53 : decode b_M_deliver 53 = .ok (.if_icmp .le 7, 3) := by decide +kernel
theorem d_M_deliver_56 : decode b_M_deliver 56 = .ok (.iconst 1, 1) := by decide +kernel
theorem d_M_deliver_57 : decode b_M_deliver 57 = .ok (.goto 4, 3) := by decide +kernel
theorem d_M_deliver_60 : decode b_M_deliver 60 = .ok (.iconst 0, 1) := by decide +kernel
theorem d_M_deliver_61 : decode b_M_deliver 61 = .ok (.iconst 0, 1) := by decide +kernel
theorem d_M_deliver_62 : decode b_M_deliver 62 = .ok (.invokevirtual 96, 3) := by decide +kernel
theorem d_M_deliver_65 : decode b_M_deliver 65 = .ok (.ifCond .eq 5, 3) := by decide +kernel
theorem d_M_deliver_68 : decode b_M_deliver 68 = .ok (.iconst 0, 1) := by decide +kernel
theorem d_M_deliver_69 : decode b_M_deliver 69 = .ok (.ireturn, 1) := by decide +kernel
theorem d_M_deliver_70 : decode b_M_deliver 70 = .ok (.aload_n 0, 1) := by decide +kernel
theorem d_M_deliver_71 : decode b_M_deliver 71 = .ok (.getfield 44, 3) := by decide +kernel
theorem d_M_deliver_74 : decode b_M_deliver 74 = .ok (.iload_n 1, 1) := by decide +kernel
theorem d_M_deliver_75 : decode b_M_deliver 75 = .ok (.dup2, 1) := by decide +kernel
theorem d_M_deliver_76 : decode b_M_deliver 76 = .ok (.iaload, 1) := by decide +kernel
theorem d_M_deliver_77 : decode b_M_deliver 77 = .ok (.iload_n 2, 1) := by decide +kernel
theorem d_M_deliver_78 : decode b_M_deliver 78 = .ok (.iadd, 1) := by decide +kernel
theorem d_M_deliver_79 : decode b_M_deliver 79 = .ok (.iastore, 1) := by decide +kernel
theorem d_M_deliver_80 : decode b_M_deliver 80 = .ok (.aload_n 0, 1) := by decide +kernel
theorem d_M_deliver_81 : decode b_M_deliver 81 = .ok (.getfield 44, 3) := by decide +kernel
theorem d_M_deliver_84 : decode b_M_deliver 84 = .ok (.iload_n 1, 1) := by decide +kernel
theorem d_M_deliver_85 : decode b_M_deliver 85 = .ok (.iaload, 1) := by decide +kernel
theorem d_M_deliver_86 : decode b_M_deliver 86 = .ok (.istore 5, 2) := by decide +kernel
theorem d_M_deliver_88 : decode b_M_deliver 88 = .ok (.aload_n 0, 1) := by decide +kernel
theorem d_M_deliver_89 : decode b_M_deliver 89 = .ok (.invokevirtual 103, 3) := by decide +kernel
theorem d_M_deliver_92 : decode b_M_deliver 92 = .ok (.pop, 1) := by decide +kernel
theorem d_M_deliver_93 : decode b_M_deliver 93 = .ok (.iload 5, 2) := by decide +kernel
theorem d_M_deliver_95 : decode b_M_deliver 95 = .ok (.ireturn, 1) := by decide +kernel
theorem d_M_check_0 : decode b_M_check 0 = .ok (.aload_n 0, 1) := by decide +kernel
theorem d_M_check_1 : decode b_M_check 1 = .ok (.iload_n 1, 1) := by decide +kernel
theorem d_M_check_2 : decode b_M_check 2 = .ok (.invokevirtual 107, 3) := by decide +kernel
theorem d_M_check_5 : decode b_M_check 5 = .ok (.ifCond .ne 7, 3) := by decide +kernel
theorem d_M_check_8 : decode b_M_check 8 = .ok (.iconst 1, 1) := by decide +kernel
theorem d_M_check_9 : decode b_M_check 9 = .ok (.goto 4, 3) := by decide +kernel
theorem d_M_check_12 : decode b_M_check 12 = .ok (.iconst 0, 1) := by decide +kernel
theorem d_M_check_13 : decode b_M_check 13 = .ok (.istore_n 3, 1) := by decide +kernel
theorem d_M_check_14 : decode b_M_check 14 = .ok (.aload_n 0, 1) := by decide +kernel
theorem d_M_check_15 : decode b_M_check 15 = .ok (.iload_n 3, 1) := by decide +kernel
theorem d_M_check_16 : decode b_M_check 16 = .ok (.iload_n 2, 1) := by decide +kernel
theorem d_M_check_17 : decode b_M_check 17 = .ok (.iconst 0, 1) := by decide +kernel
theorem d_M_check_18 : decode b_M_check 18 = .ok (.sipush 255, 3) := by decide +kernel
theorem d_M_check_21 : decode b_M_check 21 = .ok (.invokestatic 84, 3) := by decide +kernel
theorem d_M_check_24 : decode b_M_check 24 = .ok (.ifCond .ne 7, 3) := by decide +kernel
theorem d_M_check_27 : decode b_M_check 27 = .ok (.iconst 1, 1) := by decide +kernel
theorem d_M_check_28 : decode b_M_check 28 = .ok (.goto 4, 3) := by decide +kernel
theorem d_M_check_31 : decode b_M_check 31 = .ok (.iconst 0, 1) := by decide +kernel
theorem d_M_check_32 : decode b_M_check 32 = .ok (.iload_n 3, 1) := by decide +kernel
theorem d_M_check_33 : decode b_M_check 33 = .ok (.ifCond .ne 17, 3) := by decide +kernel
theorem d_M_check_36 : decode b_M_check 36 = .ok (.aload_n 0, 1) := by decide +kernel
theorem d_M_check_37 : decode b_M_check 37 = .ok (.getfield 26, 3) := by decide +kernel
theorem d_M_check_40 : decode b_M_check 40 = .ok (.iload_n 1, 1) := by decide +kernel
theorem d_M_check_41 : decode b_M_check 41 = .ok (.iaload, 1) := by decide +kernel
theorem d_M_check_42 : decode b_M_check 42 = .ok (.iconst 5, 1) := by decide +kernel
theorem d_M_check_43 : decode b_M_check 43 = .ok (.if_icmp .eq 7, 3) := by decide +kernel
theorem d_M_check_46 : decode b_M_check 46 = .ok (.iconst 1, 1) := by decide +kernel
theorem d_M_check_47 : decode b_M_check 47 = .ok (.goto 4, 3) := by decide +kernel
theorem d_M_check_50 : decode b_M_check 50 = .ok (.iconst 0, 1) := by decide +kernel
theorem d_M_check_51 : decode b_M_check 51 = .ok (.iconst 0, 1) := by decide +kernel
theorem d_M_check_52 : decode b_M_check 52 = .ok (.invokevirtual 96, 3) := by decide +kernel
theorem d_M_check_55 : decode b_M_check 55 = .ok (.ifCond .eq 4, 3) := by decide +kernel
theorem d_M_check_58 : decode b_M_check 58 = .ok (.return_, 1) := by decide +kernel
theorem d_M_check_59 : decode b_M_check 59 = .ok (.aload_n 0, 1) := by decide +kernel
theorem d_M_check_60 : decode b_M_check 60 = .ok (.getfield 35, 3) := by decide +kernel
theorem d_M_check_63 : decode b_M_check 63 = .ok (.iload_n 1, 1) := by decide +kernel
theorem d_M_check_64 : decode b_M_check 64 = .ok (.dup2, 1) := by decide +kernel
theorem d_M_check_65 : decode b_M_check 65 = .ok (.iaload, 1) := by decide +kernel
theorem d_M_check_66 : decode b_M_check 66 = .ok (.iload_n 2, 1) := by decide +kernel
theorem d_M_check_67 : decode b_M_check 67 = .ok (.ior, 1) := by decide +kernel
theorem d_M_check_68 : decode b_M_check 68 = .ok (.iastore, 1) := by decide +kernel
theorem d_M_check_69 : decode b_M_check 69 = .ok (.aload_n 0, 1) := by decide +kernel
theorem d_M_check_70 : decode b_M_check 70 = .ok (.invokevirtual 103, 3) := by decide +kernel
theorem d_M_check_73 : decode b_M_check 73 = .ok (.pop, 1) := by decide +kernel
theorem d_M_check_74 : decode b_M_check 74 = .ok (.return_, 1) := by decide +kernel
theorem d_M_inside_0 : decode b_M_inside 0 = .ok (.aload_n 0, 1) := by decide +kernel
theorem d_M_inside_1 : decode b_M_inside 1 = .ok (.aload_n 0, 1) := by decide +kernel
theorem d_M_inside_2 : decode b_M_inside 2 = .ok (.iload_n 1, 1) := by decide +kernel
theorem d_M_inside_3 : decode b_M_inside 3 = .ok (.invokevirtual 91, 3) := by decide +kernel
theorem d_M_inside_6 : decode b_M_inside 6 = .ok (.ifCond .ne 7, 3) := by decide +kernel
theorem d_M_inside_9 : decode b_M_inside 9 = .ok (.iconst 1, 1) := by decide +kernel
theorem d_M_inside_10 : decode b_M_inside 10 = .ok (.goto 4, 3) := by decide +kernel
theorem d_M_inside_13 : decode b_M_inside 13 = .ok (.iconst 0, 1) := by decide +kernel
theorem d_M_inside_14 : decode b_M_inside 14 = .ok (.iload_n 2, 1) := by decide +kernel
theorem d_M_inside_15 : decode b_M_inside 15 = .ok (.iconst 0, 1) := by decide +kernel
theorem d_M_inside_16 : decode b_M_inside 16 = .ok (.sipush 1000, 3) := by decide +kernel
theorem d_M_inside_19 : decode b_M_inside 19 = .ok (.invokestatic 84, 3) := by decide +kernel
theorem d_M_inside_22 : decode b_M_inside 22 = .ok (.ifCond .ne 7, 3) := by decide +kernel
theorem d_M_inside_25 : decode b_M_inside 25 = .ok (.iconst 1, 1) := by decide +kernel
theorem d_M_inside_26 : decode b_M_inside 26 = .ok (.goto 4, 3) := by decide +kernel
theorem d_M_inside_29 : decode b_M_inside 29 = .ok (.iconst 0, 1) := by decide +kernel
theorem d_M_inside_30 : decode b_M_inside 30 = .ok (.aload_n 0, 1) := by decide +kernel
theorem d_M_inside_31 : decode b_M_inside 31 = .ok (.iload_n 1, 1) := by decide +kernel
theorem d_M_inside_32 : decode b_M_inside 32 = .ok (.invokevirtual 150, 3) := by decide +kernel
theorem d_M_inside_35 : decode b_M_inside 35 = .ok (.iconst 0, 1) := by decide +kernel
theorem d_M_inside_36 : decode b_M_inside 36 = .ok (.invokevirtual 96, 3) := by decide +kernel
theorem d_M_inside_39 : decode b_M_inside 39 = .ok (.ifCond .eq 4, 3) := by decide +kernel
theorem d_M_inside_42 : decode b_M_inside 42 = .ok (.return_, 1) := by decide +kernel
theorem d_M_inside_43 : decode b_M_inside 43 = .ok (.aload_n 0, 1) := by decide +kernel
theorem d_M_inside_44 : decode b_M_inside 44 = .ok (.getfield 60, 3) := by decide +kernel
theorem d_M_inside_47 : decode b_M_inside 47 = .ok (.iload_n 1, 1) := by decide +kernel
theorem d_M_inside_48 : decode b_M_inside 48 = .ok (.iload_n 2, 1) := by decide +kernel
theorem d_M_inside_49 : decode b_M_inside 49 = .ok (.iastore, 1) := by decide +kernel
theorem d_M_inside_50 : decode b_M_inside 50 = .ok (.aload_n 0, 1) := by decide +kernel
theorem d_M_inside_51 : decode b_M_inside 51 = .ok (.invokevirtual 103, 3) := by decide +kernel
theorem d_M_inside_54 : decode b_M_inside 54 = .ok (.pop, 1) := by decide +kernel
theorem d_M_inside_55 : decode b_M_inside 55 = .ok (.return_, 1) := by decide +kernel
theorem d_M_report_0 : decode b_M_report 0 = .ok (.aload_n 0, 1) := by decide +kernel
theorem d_M_report_1 : decode b_M_report 1 = .ok (.iload_n 1, 1) := by decide +kernel
theorem d_M_report_2 : decode b_M_report 2 = .ok (.invokevirtual 91, 3) := by decide +kernel
theorem d_M_report_5 : decode b_M_report 5 = .ok (.ifCond .eq 13, 3) := by decide +kernel
theorem d_M_report_8 : decode b_M_report 8 = .ok (.iload_n 2, 1) := by decide +kernel
theorem d_M_report_9 : decode b_M_report 9 = .ok (.iconst 0, 1) := by decide +kernel
theorem d_M_report_10 : decode b_M_report 10 = .ok (.bipush 7, 2) := by decide +kernel
theorem d_M_report_12 : decode b_M_report 12 = .ok (.invokestatic 84, 3) := by decide +kernel
theorem d_M_report_15 : decode b_M_report 15 = .ok (.ifCond .ne 7, 3) := by decide +kernel
theorem d_M_report_18 : decode b_M_report 18 = .ok (.iconst 1, 1) := by decide +kernel
theorem d_M_report_19 : decode b_M_report 19 = .ok (.goto 4, 3) := by decide +kernel
theorem d_M_report_22 : decode b_M_report 22 = .ok (.iconst 0, 1) := by decide +kernel
theorem d_M_report_23 : decode b_M_report 23 = .ok (.istore_n 3, 1) := by decide +kernel
theorem d_M_report_24 : decode b_M_report 24 = .ok (.aload_n 0, 1) := by decide +kernel
theorem d_M_report_25 : decode b_M_report 25 = .ok (.iload_n 3, 1) := by decide +kernel
theorem d_M_report_26 : decode b_M_report 26 = .ok (.iload_n 3, 1) := by decide +kernel
theorem d_M_report_27 : decode b_M_report 27 = .ok (.ifCond .ne 16, 3) := by decide +kernel
theorem d_M_report_30 : decode b_M_report 30 = .ok (.aload_n 0, 1) := by decide +kernel
theorem d_M_report_31 : decode b_M_report 31 = .ok (.getfield 50, 3) := by decide +kernel
theorem d_M_report_34 : decode b_M_report 34 = .ok (.iload_n 1, 1) := by decide +kernel
theorem d_M_report_35 : decode b_M_report 35 = .ok (.baload, 1) := by decide +kernel
theorem d_M_report_36 : decode b_M_report 36 = .ok (.ifCond .ne 7, 3) := by decide +kernel
theorem d_M_report_39 : decode b_M_report 39 = .ok (.iconst 1, 1) := by decide +kernel
theorem d_M_report_40 : decode b_M_report 40 = .ok (.goto 4, 3) := by decide +kernel
theorem d_M_report_43 : decode b_M_report 43 = .ok (.iconst 0, 1) := by decide +kernel
theorem d_M_report_44 : decode b_M_report 44 = .ok (.iconst 0, 1) := by decide +kernel
theorem d_M_report_45 : decode b_M_report 45 = .ok (.iconst 0, 1) := by decide +kernel
theorem d_M_report_46 : decode b_M_report 46 = .ok (.invokevirtual 96, 3) := by decide +kernel
theorem d_M_report_49 : decode b_M_report 49 = .ok (.ifCond .eq 4, 3) := by decide +kernel
theorem d_M_report_52 : decode b_M_report 52 = .ok (.return_, 1) := by decide +kernel
theorem d_M_report_53 : decode b_M_report 53 = .ok (.aload_n 0, 1) := by decide +kernel
theorem d_M_report_54 : decode b_M_report 54 = .ok (.getfield 57, 3) := by decide +kernel
theorem d_M_report_57 : decode b_M_report 57 = .ok (.iload_n 1, 1) := by decide +kernel
theorem d_M_report_58 : decode b_M_report 58 = .ok (.dup2, 1) := by decide +kernel
theorem d_M_report_59 : decode b_M_report 59 = .ok (.iaload, 1) := by decide +kernel
theorem d_M_report_60 : decode b_M_report 60 = .ok (.iconst 1, 1) := by decide +kernel
theorem d_M_report_61 : decode b_M_report 61 = .ok (.iload_n 2, 1) := by decide +kernel
theorem d_M_report_62 : decode b_M_report 62 = .ok (.ishl, 1) := by decide +kernel
theorem d_M_report_63 : decode b_M_report 63 = .ok (.ior, 1) := by decide +kernel
theorem d_M_report_64 : decode b_M_report 64 = .ok (.iastore, 1) := by decide +kernel
theorem d_M_report_65 : decode b_M_report 65 = .ok (.aload_n 0, 1) := by decide +kernel
theorem d_M_report_66 : decode b_M_report 66 = .ok (.invokevirtual 103, 3) := by decide +kernel
theorem d_M_report_69 : decode b_M_report 69 = .ok (.pop, 1) := by decide +kernel
theorem d_M_report_70 : decode b_M_report 70 = .ok (.return_, 1) := by decide +kernel
theorem d_M_watch_0 : decode b_M_watch 0 = .ok (.aload_n 0, 1) := by decide +kernel
theorem d_M_watch_1 : decode b_M_watch 1 = .ok (.aload_n 0, 1) := by decide +kernel
theorem d_M_watch_2 : decode b_M_watch 2 = .ok (.iload_n 1, 1) := by decide +kernel
theorem d_M_watch_3 : decode b_M_watch 3 = .ok (.invokevirtual 91, 3) := by decide +kernel
theorem d_M_watch_6 : decode b_M_watch 6 = .ok (.ifCond .ne 7, 3) := by decide +kernel
theorem d_M_watch_9 : decode b_M_watch 9 = .ok (.iconst 1, 1) := by decide +kernel
theorem d_M_watch_10 : decode b_M_watch 10 = .ok (.goto 4, 3) := by decide +kernel
theorem d_M_watch_13 : decode b_M_watch 13 = .ok (.iconst 0, 1) := by decide +kernel
theorem d_M_watch_14 : decode b_M_watch 14 = .ok (.iload_n 2, 1) := by decide +kernel
theorem d_M_watch_15 : decode b_M_watch 15 = .ok (.iconst (-1), 1) := by decide +kernel
theorem d_M_watch_16 : decode b_M_watch 16 = .ok (.ldc 145, 2) := by decide +kernel
theorem d_M_watch_18 : decode b_M_watch 18 = .ok (.invokestatic 84, 3) := by decide +kernel
theorem d_M_watch_21 : decode b_M_watch 21 = .ok (.ifCond .ne 7, 3) := by decide +kernel
theorem d_M_watch_24 : decode b_M_watch 24 = .ok (.iconst 1, 1) := by decide +kernel
theorem d_M_watch_25 : decode b_M_watch 25 = .ok (.goto 4, 3) := by decide +kernel
theorem d_M_watch_28 : decode b_M_watch 28 = .ok (.iconst 0, 1) := by decide +kernel
theorem d_M_watch_29 : decode b_M_watch 29 = .ok (.aload_n 0, 1) := by decide +kernel
theorem d_M_watch_30 : decode b_M_watch 30 = .ok (.iload_n 1, 1) := by decide +kernel
theorem d_M_watch_31 : decode b_M_watch 31 = .ok (.invokevirtual 150, 3) := by decide +kernel
theorem d_M_watch_34 : decode b_M_watch 34 = .ok (.iconst 0, 1) := by decide +kernel
theorem d_M_watch_35 : decode b_M_watch 35 = .ok (.invokevirtual 96, 3) := by decide +kernel
theorem d_M_watch_38 : decode b_M_watch 38 = .ok (.ifCond .eq 4, 3) := by decide +kernel
theorem d_M_watch_41 : decode b_M_watch 41 = .ok (.return_, 1) := by decide +kernel
theorem d_M_watch_42 : decode b_M_watch 42 = .ok (.aload_n 0, 1) := by decide +kernel
theorem d_M_watch_43 : decode b_M_watch 43 = .ok (.getfield 63, 3) := by decide +kernel
theorem d_M_watch_46 : decode b_M_watch 46 = .ok (.iload_n 1, 1) := by decide +kernel
theorem d_M_watch_47 : decode b_M_watch 47 = .ok (.iload_n 2, 1) := by decide +kernel
theorem d_M_watch_48 : decode b_M_watch 48 = .ok (.iastore, 1) := by decide +kernel
theorem d_M_watch_49 : decode b_M_watch 49 = .ok (.aload_n 0, 1) := by decide +kernel
theorem d_M_watch_50 : decode b_M_watch 50 = .ok (.invokevirtual 103, 3) := by decide +kernel
theorem d_M_watch_53 : decode b_M_watch 53 = .ok (.pop, 1) := by decide +kernel
theorem d_M_watch_54 : decode b_M_watch 54 = .ok (.return_, 1) := by decide +kernel
theorem d_M_unitAt_0 : decode b_M_unitAt 0 = .ok (.aload_n 0, 1) := by decide +kernel
theorem d_M_unitAt_1 : decode b_M_unitAt 1 = .ok (.aload_n 0, 1) := by decide +kernel
theorem d_M_unitAt_2 : decode b_M_unitAt 2 = .ok (.iload_n 1, 1) := by decide +kernel
theorem d_M_unitAt_3 : decode b_M_unitAt 3 = .ok (.invokevirtual 107, 3) := by decide +kernel
theorem d_M_unitAt_6 : decode b_M_unitAt 6 = .ok (.ifCond .eq 12, 3) := by decide +kernel
theorem d_M_unitAt_9 : decode b_M_unitAt 9 = .ok (.iload_n 2, 1) := by decide +kernel
theorem d_M_unitAt_10 : decode b_M_unitAt 10 = .ok (.iconst 0, 1) := by decide +kernel
theorem d_M_unitAt_11 : decode b_M_unitAt 11 = .ok (.iconst 4, 1) := by decide +kernel
theorem d_M_unitAt_12 : decode b_M_unitAt 12 = .ok (.invokestatic 84, 3) := by decide +kernel
theorem d_M_unitAt_15 : decode b_M_unitAt 15 = .ok (.ifCond .ne 7, 3) := by decide +kernel
theorem d_M_unitAt_18 : decode b_M_unitAt 18 = .ok (.iconst 1, 1) := by decide +kernel
theorem d_M_unitAt_19 : decode b_M_unitAt 19 = .ok (.goto 4, 3) := by decide +kernel
theorem d_M_unitAt_22 : decode b_M_unitAt 22 = .ok (.iconst 0, 1) := by decide +kernel
theorem d_M_unitAt_23 : decode b_M_unitAt 23 = .ok (.iconst 0, 1) := by decide +kernel
theorem d_M_unitAt_24 : decode b_M_unitAt 24 = .ok (.iconst 0, 1) := by decide +kernel
theorem d_M_unitAt_25 : decode b_M_unitAt 25 = .ok (.iconst 0, 1) := by decide +kernel
theorem d_M_unitAt_26 : decode b_M_unitAt 26 = .ok (.invokevirtual 96, 3) := by decide +kernel
theorem d_M_unitAt_29 : decode b_M_unitAt 29 = .ok (.ifCond .eq 5, 3) := by decide +kernel
theorem d_M_unitAt_32 : decode b_M_unitAt 32 = .ok (.iconst 0, 1) := by decide +kernel
theorem d_M_unitAt_33 : decode b_M_unitAt 33 = .ok (.ireturn, 1) := by decide +kernel
theorem d_M_unitAt_34 : decode b_M_unitAt 34 = .ok (.iload_n 2, 1) := by decide +kernel
theorem d_M_unitAt_35 : decode b_M_unitAt 35 = .ok (.tableswitch 80 0 3 #[29, 36, 43, 50], 29) := by decide +kernel
theorem d_M_unitAt_64 : decode b_M_unitAt 64 = .ok (.aload_n 0, 1) := by decide +kernel
theorem d_M_unitAt_65 : decode b_M_unitAt 65 = .ok (.getfield 26, 3) := by decide +kernel
theorem d_M_unitAt_68 : decode b_M_unitAt 68 = .ok (.iload_n 1, 1) := by decide +kernel
theorem d_M_unitAt_69 : decode b_M_unitAt 69 = .ok (.iaload, 1) := by decide +kernel
theorem d_M_unitAt_70 : decode b_M_unitAt 70 = .ok (.ireturn, 1) := by decide +kernel
theorem d_M_unitAt_71 : decode b_M_unitAt 71 = .ok (.aload_n 0, 1) := by decide +kernel
theorem d_M_unitAt_72 : decode b_M_unitAt 72 = .ok (.getfield 29, 3) := by decide +kernel
theorem d_M_unitAt_75 : decode b_M_unitAt 75 = .ok (.iload_n 1, 1) := by decide +kernel
theorem d_M_unitAt_76 : decode b_M_unitAt 76 = .ok (.iaload, 1) := by decide +kernel
theorem d_M_unitAt_77 : decode b_M_unitAt 77 = .ok (.ireturn, 1) := by decide +kernel
theorem d_M_unitAt_78 : decode b_M_unitAt 78 = .ok (.aload_n 0, 1) := by decide +kernel
theorem d_M_unitAt_79 : decode b_M_unitAt 79 = .ok (.getfield 32, 3) := by decide +kernel
theorem d_M_unitAt_82 : decode b_M_unitAt 82 = .ok (.iload_n 1, 1) := by decide +kernel
theorem d_M_unitAt_83 : decode b_M_unitAt 83 = .ok (.iaload, 1) := by decide +kernel
theorem d_M_unitAt_84 : decode b_M_unitAt 84 = .ok (.ireturn, 1) := by decide +kernel
theorem d_M_unitAt_85 : decode b_M_unitAt 85 = .ok (.aload_n 0, 1) := by decide +kernel
theorem d_M_unitAt_86 : decode b_M_unitAt 86 = .ok (.getfield 26, 3) := by decide +kernel
theorem d_M_unitAt_89 : decode b_M_unitAt 89 = .ok (.iload_n 1, 1) := by decide +kernel
theorem d_M_unitAt_90 : decode b_M_unitAt 90 = .ok (.iaload, 1) := by decide +kernel
theorem d_M_unitAt_91 : decode b_M_unitAt 91 = .ok (.iconst 5, 1) := by decide +kernel
theorem d_M_unitAt_92 : decode b_M_unitAt 92 = .ok (.if_icmp .ne 21, 3) := by decide +kernel
theorem d_M_unitAt_95 : decode b_M_unitAt 95 = .ok (.aload_n 0, 1) := by decide +kernel
theorem d_M_unitAt_96 : decode b_M_unitAt 96 = .ok (.getfield 23, 3) := by decide +kernel
theorem d_M_unitAt_99 : decode b_M_unitAt 99 = .ok (.iload_n 1, 1) := by decide +kernel
theorem d_M_unitAt_100 : decode b_M_unitAt 100 = .ok (.iaload, 1) := by decide +kernel
theorem d_M_unitAt_101 : decode b_M_unitAt 101 = .ok (.aload_n 0, 1) := by decide +kernel
theorem d_M_unitAt_102 : decode b_M_unitAt 102 = .ok (.getfield 35, 3) := by decide +kernel
theorem d_M_unitAt_105 : decode b_M_unitAt 105 = .ok (.iload_n 1, 1) := by decide +kernel
theorem d_M_unitAt_106 : decode b_M_unitAt 106 = .ok (.iaload, 1) := by decide +kernel
theorem d_M_unitAt_107 : decode b_M_unitAt 107 = .ok (.iconst (-1), 1) := by decide +kernel
theorem d_M_unitAt_108 : decode b_M_unitAt 108 = .ok (.ixor, 1) := by decide +kernel
theorem d_M_unitAt_109 : decode b_M_unitAt 109 = .ok (.iand, 1) := by decide +kernel
theorem d_M_unitAt_110 : decode b_M_unitAt 110 = .ok (.goto 4, 3) := by decide +kernel
theorem d_M_unitAt_113 : decode b_M_unitAt 113 = .ok (.iconst 0, 1) := by decide +kernel
theorem d_M_unitAt_114 : decode b_M_unitAt 114 = .ok (.ireturn, 1) := by decide +kernel
theorem d_M_unitAt_115 : decode b_M_unitAt 115 = .ok (.aload_n 0, 1) := by decide +kernel
theorem d_M_unitAt_116 : decode b_M_unitAt 116 = .ok (.getfield 38, 3) := by decide +kernel
theorem d_M_unitAt_119 : decode b_M_unitAt 119 = .ok (.iload_n 1, 1) := by decide +kernel
theorem d_M_unitAt_120 : decode b_M_unitAt 120 = .ok (.iaload, 1) := by decide +kernel
theorem d_M_unitAt_121 : decode b_M_unitAt 121 = .ok (.ireturn, 1) := by decide +kernel
theorem d_M_incidentAt_0 : decode b_M_incidentAt 0 = .ok (.aload_n 0, 1) := by decide +kernel
theorem d_M_incidentAt_1 : decode b_M_incidentAt 1 = .ok (.aload_n 0, 1) := by decide +kernel
theorem d_M_incidentAt_2 : decode b_M_incidentAt 2 = .ok (.iload_n 1, 1) := by decide +kernel
theorem d_M_incidentAt_3 : decode b_M_incidentAt 3 = .ok (.invokevirtual 91, 3) := by decide +kernel
theorem d_M_incidentAt_6 : decode b_M_incidentAt 6 = .ok (.ifCond .eq 13, 3) := by decide +kernel
theorem d_M_incidentAt_9 : decode b_M_incidentAt 9 = .ok (.iload_n 2, 1) := by decide +kernel
theorem d_M_incidentAt_10 : decode b_M_incidentAt 10 = .ok (.iconst 0, 1) := by decide +kernel
theorem d_M_incidentAt_11 : decode b_M_incidentAt 11 = .ok (.bipush 7, 2) := by decide +kernel
theorem d_M_incidentAt_13 : decode b_M_incidentAt 13 = .ok (.invokestatic 84, 3) := by decide +kernel
theorem d_M_incidentAt_16 : decode b_M_incidentAt 16 = .ok (.ifCond .ne 7, 3) := by decide +kernel
theorem d_M_incidentAt_19 : decode b_M_incidentAt 19 = .ok (.iconst 1, 1) := by decide +kernel
theorem d_M_incidentAt_20 : decode b_M_incidentAt 20 = .ok (.goto 4, 3) := by decide +kernel
theorem d_M_incidentAt_23 : decode b_M_incidentAt 23 = .ok (.iconst 0, 1) := by decide +kernel
theorem d_M_incidentAt_24 : decode b_M_incidentAt 24 = .ok (.iconst 0, 1) := by decide +kernel
theorem d_M_incidentAt_25 : decode b_M_incidentAt 25 = .ok (.iconst 0, 1) := by decide +kernel
theorem d_M_incidentAt_26 : decode b_M_incidentAt 26 = .ok (.iconst 0, 1) := by decide +kernel
theorem d_M_incidentAt_27 : decode b_M_incidentAt 27 = .ok (.invokevirtual 96, 3) := by decide +kernel
theorem d_M_incidentAt_30 : decode b_M_incidentAt 30 = .ok (.ifCond .eq 5, 3) := by decide +kernel
theorem d_M_incidentAt_33 : decode b_M_incidentAt 33 = .ok (.iconst 0, 1) := by decide +kernel
theorem d_M_incidentAt_34 : decode b_M_incidentAt 34 = .ok (.ireturn, 1) := by decide +kernel
theorem d_M_incidentAt_35 : decode b_M_incidentAt 35 = .ok (.iload_n 2, 1) := by decide +kernel
theorem d_M_incidentAt_36 : decode b_M_incidentAt 36 = .ok (.tableswitch 99 0 6 #[44, 59, 65, 71, 78, 85, 92], 44) := by decide +kernel
theorem d_M_incidentAt_80 : decode b_M_incidentAt 80 = .ok (.aload_n 0, 1) := by decide +kernel
theorem d_M_incidentAt_81 : decode b_M_incidentAt 81 = .ok (.getfield 50, 3) := by decide +kernel
theorem d_M_incidentAt_84 : decode b_M_incidentAt 84 = .ok (.iload_n 1, 1) := by decide +kernel
theorem d_M_incidentAt_85 : decode b_M_incidentAt 85 = .ok (.baload, 1) := by decide +kernel
theorem d_M_incidentAt_86 : decode b_M_incidentAt 86 = .ok (.ifCond .eq 7, 3) := by decide +kernel
theorem d_M_incidentAt_89 : decode b_M_incidentAt 89 = .ok (.iconst 1, 1) := by decide +kernel
theorem d_M_incidentAt_90 : decode b_M_incidentAt 90 = .ok (.goto 4, 3) := by decide +kernel
theorem d_M_incidentAt_93 : decode b_M_incidentAt 93 = .ok (.iconst 0, 1) := by decide +kernel
theorem d_M_incidentAt_94 : decode b_M_incidentAt 94 = .ok (.ireturn, 1) := by decide +kernel
theorem d_M_incidentAt_95 : decode b_M_incidentAt 95 = .ok (.aload_n 0, 1) := by decide +kernel
theorem d_M_incidentAt_96 : decode b_M_incidentAt 96 = .ok (.iload_n 1, 1) := by decide +kernel
theorem d_M_incidentAt_97 : decode b_M_incidentAt 97 = .ok (.invokevirtual 128, 3) := by decide +kernel
theorem d_M_incidentAt_100 : decode b_M_incidentAt 100 = .ok (.ireturn, 1) := by decide +kernel
theorem d_M_incidentAt_101 : decode b_M_incidentAt 101 = .ok (.aload_n 0, 1) := by decide +kernel
theorem d_M_incidentAt_102 : decode b_M_incidentAt 102 = .ok (.iload_n 1, 1) := by decide +kernel
theorem d_M_incidentAt_103 : decode b_M_incidentAt 103 = .ok (.invokevirtual 132, 3) := by decide +kernel
theorem d_M_incidentAt_106 : decode b_M_incidentAt 106 = .ok (.ireturn, 1) := by decide +kernel
theorem d_M_incidentAt_107 : decode b_M_incidentAt 107 = .ok (.aload_n 0, 1) := by decide +kernel
theorem d_M_incidentAt_108 : decode b_M_incidentAt 108 = .ok (.getfield 66, 3) := by decide +kernel
theorem d_M_incidentAt_111 : decode b_M_incidentAt 111 = .ok (.iload_n 1, 1) := by decide +kernel
theorem d_M_incidentAt_112 : decode b_M_incidentAt 112 = .ok (.iaload, 1) := by decide +kernel
theorem d_M_incidentAt_113 : decode b_M_incidentAt 113 = .ok (.ireturn, 1) := by decide +kernel
theorem d_M_incidentAt_114 : decode b_M_incidentAt 114 = .ok (.aload_n 0, 1) := by decide +kernel
theorem d_M_incidentAt_115 : decode b_M_incidentAt 115 = .ok (.getfield 69, 3) := by decide +kernel
theorem d_M_incidentAt_118 : decode b_M_incidentAt 118 = .ok (.iload_n 1, 1) := by decide +kernel
theorem d_M_incidentAt_119 : decode b_M_incidentAt 119 = .ok (.iaload, 1) := by decide +kernel
theorem d_M_incidentAt_120 : decode b_M_incidentAt 120 = .ok (.ireturn, 1) := by decide +kernel
theorem d_M_incidentAt_121 : decode b_M_incidentAt 121 = .ok (.aload_n 0, 1) := by decide +kernel
theorem d_M_incidentAt_122 : decode b_M_incidentAt 122 = .ok (.getfield 72, 3) := by decide +kernel
theorem d_M_incidentAt_125 : decode b_M_incidentAt 125 = .ok (.iload_n 1, 1) := by decide +kernel
theorem d_M_incidentAt_126 : decode b_M_incidentAt 126 = .ok (.iaload, 1) := by decide +kernel
theorem d_M_incidentAt_127 : decode b_M_incidentAt 127 = .ok (.ireturn, 1) := by decide +kernel
theorem d_M_incidentAt_128 : decode b_M_incidentAt 128 = .ok (.aload_n 0, 1) := by decide +kernel
theorem d_M_incidentAt_129 : decode b_M_incidentAt 129 = .ok (.getfield 57, 3) := by decide +kernel
theorem d_M_incidentAt_132 : decode b_M_incidentAt 132 = .ok (.iload_n 1, 1) := by decide +kernel
theorem d_M_incidentAt_133 : decode b_M_incidentAt 133 = .ok (.iaload, 1) := by decide +kernel
theorem d_M_incidentAt_134 : decode b_M_incidentAt 134 = .ok (.ireturn, 1) := by decide +kernel
theorem d_M_incidentAt_135 : decode b_M_incidentAt 135 = .ok (.aload_n 0, 1) := by decide +kernel
theorem d_M_incidentAt_136 : decode b_M_incidentAt 136 = .ok (.getfield 50, 3) := by decide +kernel
theorem d_M_incidentAt_139 : decode b_M_incidentAt 139 = .ok (.iload_n 1, 1) := by decide +kernel
theorem d_M_incidentAt_140 : decode b_M_incidentAt 140 = .ok (.baload, 1) := by decide +kernel
theorem d_M_incidentAt_141 : decode b_M_incidentAt 141 = .ok (.ifCond .eq 29, 3) := by decide +kernel
theorem d_M_incidentAt_144 : decode b_M_incidentAt 144 = .ok (.aload_n 0, 1) := by decide +kernel
theorem d_M_incidentAt_145 : decode b_M_incidentAt 145 = .ok (.getfield 63, 3) := by decide +kernel
theorem d_M_incidentAt_148 : decode b_M_incidentAt 148 = .ok (.iload_n 1, 1) := by decide +kernel
theorem d_M_incidentAt_149 : decode b_M_incidentAt 149 = .ok (.iaload, 1) := by decide +kernel
theorem d_M_incidentAt_150 : decode b_M_incidentAt 150 = .ok (.ifCond .lt 20, 3) := by decide +kernel
theorem d_M_incidentAt_153 : decode b_M_incidentAt 153 = .ok (.aload_n 0, 1) := by decide +kernel
theorem d_M_incidentAt_154 : decode b_M_incidentAt 154 = .ok (.getfield 100, 3) := by decide +kernel
theorem d_M_incidentAt_157 : decode b_M_incidentAt 157 = .ok (.aload_n 0, 1) := by decide +kernel
theorem d_M_incidentAt_158 : decode b_M_incidentAt 158 = .ok (.getfield 63, 3) := by decide +kernel
theorem d_M_incidentAt_161 : decode b_M_incidentAt 161 = .ok (.iload_n 1, 1) := by decide +kernel
theorem d_M_incidentAt_162 : decode b_M_incidentAt 162 = .ok (.iaload, 1) := by decide +kernel
theorem d_M_incidentAt_163 : decode b_M_incidentAt 163 = .ok (.if_icmp .lt 7, 3) := by decide +kernel
theorem d_M_incidentAt_166 : decode b_M_incidentAt 166 = .ok (.iconst 1, 1) := by decide +kernel
theorem d_M_incidentAt_167 : decode b_M_incidentAt 167 = .ok (.goto 4, 3) := by decide +kernel
theorem d_M_incidentAt_170 : decode b_M_incidentAt 170 = .ok (.iconst 0, 1) := by decide +kernel
theorem d_M_incidentAt_171 : decode b_M_incidentAt 171 = .ok (.ireturn, 1) := by decide +kernel
theorem d_M_count_0 : decode b_M_count 0 = .ok (.aload_n 0, 1) := by decide +kernel
theorem d_M_count_1 : decode b_M_count 1 = .ok (.iload_n 1, 1) := by decide +kernel
theorem d_M_count_2 : decode b_M_count 2 = .ok (.iconst 0, 1) := by decide +kernel
theorem d_M_count_3 : decode b_M_count 3 = .ok (.iconst 3, 1) := by decide +kernel
theorem d_M_count_4 : decode b_M_count 4 = .ok (.invokestatic 84, 3) := by decide +kernel
theorem d_M_count_7 : decode b_M_count 7 = .ok (.ifCond .ne 18, 3) := by decide +kernel
theorem d_M_count_10 : decode b_M_count 10 = .ok (.iload_n 1, 1) := by decide +kernel
theorem d_M_count_11 : decode b_M_count 11 = .ok (.bipush 10, 2) := by decide +kernel
theorem d_M_count_13 : decode b_M_count 13 = .ok (.bipush 15, 2) := by decide +kernel
theorem d_M_count_15 : decode b_M_count 15 = .ok (.invokestatic 84, 3) := by decide +kernel
theorem d_M_count_18 : decode b_M_count 18 = .ok (.ifCond .ne 7, 3) := by decide +kernel
theorem d_M_count_21 : decode b_M_count 21 = .ok (.iconst 1, 1) := by decide +kernel
theorem d_M_count_22 : decode b_M_count 22 = .ok (.goto 4, 3) := by decide +kernel
theorem d_M_count_25 : decode b_M_count 25 = .ok (.iconst 0, 1) := by decide +kernel
theorem d_M_count_26 : decode b_M_count 26 = .ok (.iconst 0, 1) := by decide +kernel
theorem d_M_count_27 : decode b_M_count 27 = .ok (.iconst 0, 1) := by decide +kernel
theorem d_M_count_28 : decode b_M_count 28 = .ok (.iconst 0, 1) := by decide +kernel
theorem d_M_count_29 : decode b_M_count 29 = .ok (.invokevirtual 96, 3) := by decide +kernel
theorem d_M_count_32 : decode b_M_count 32 = .ok (.ifCond .eq 5, 3) := by decide +kernel
theorem d_M_count_35 : decode b_M_count 35 = .ok (.iconst 0, 1) := by decide +kernel
theorem d_M_count_36 : decode b_M_count 36 = .ok (.ireturn, 1) := by decide +kernel
theorem d_M_count_37 : decode b_M_count 37 = .ok (.iload_n 1, 1) := by decide +kernel
theorem d_M_count_38 : decode b_M_count 38 = .ok (.bipush 9, 2) := by decide +kernel
theorem d_M_count_40 : decode b_M_count 40 = .ok (.if_icmp .le 13, 3) := by decide +kernel
theorem d_M_count_43 : decode b_M_count 43 = .ok (.aload_n 0, 1) := by decide +kernel
theorem d_M_count_44 : decode b_M_count 44 = .ok (.getfield 44, 3) := by decide +kernel
theorem d_M_count_47 : decode b_M_count 47 = .ok (.iload_n 1, 1) := by decide +kernel
theorem d_M_count_48 : decode b_M_count 48 = .ok (.bipush 10, 2) := by decide +kernel
theorem d_M_count_50 : decode b_M_count 50 = .ok (.isub, 1) := by decide +kernel
theorem d_M_count_51 : decode b_M_count 51 = .ok (.iaload, 1) := by decide +kernel
theorem d_M_count_52 : decode b_M_count 52 = .ok (.ireturn, 1) := by decide +kernel
theorem d_M_count_53 : decode b_M_count 53 = .ok (.iconst 0, 1) := by decide +kernel
theorem d_M_count_54 : decode b_M_count 54 = .ok (.istore_n 2, 1) := by decide +kernel
theorem d_M_count_55 : decode b_M_count 55 = .ok (.iconst 0, 1) := by decide +kernel
theorem d_M_count_56 : decode b_M_count 56 = .ok (.istore_n 3, 1) := by decide +kernel
theorem d_M_count_57 : decode b_M_count 57 = .ok (.iload_n 3, 1) := by decide +kernel
theorem d_M_count_58 : decode b_M_count 58 = .ok (.aload_n 0, 1) := by decide +kernel
theorem d_M_count_59 : decode b_M_count 59 = .ok (.getfield 81, 3) := by decide +kernel
theorem d_M_count_62 : decode b_M_count 62 = .ok (.if_icmp .ge 31, 3) := by decide +kernel
theorem d_M_count_65 : decode b_M_count 65 = .ok (.iload_n 1, 1) := by decide +kernel
theorem d_M_count_66 : decode b_M_count 66 = .ok (.iconst 1, 1) := by decide +kernel
theorem d_M_count_67 : decode b_M_count 67 = .ok (.if_icmp .ne 26, 3) := by decide +kernel
theorem d_M_count_70 : decode b_M_count 70 = .ok (.iload_n 2, 1) := by decide +kernel
theorem d_M_count_71 : decode b_M_count 71 = .ok (.aload_n 0, 1) := by decide +kernel
theorem d_M_count_72 : decode b_M_count 72 = .ok (.getfield 26, 3) := by decide +kernel
theorem d_M_count_75 : decode b_M_count 75 = .ok (.iload_n 3, 1) := by decide +kernel
theorem d_M_count_76 : decode b_M_count 76 = .ok (.iaload, 1) := by decide +kernel
theorem d_M_count_77 : decode b_M_count 77 = .ok (.ifCond .ne 7, 3) := by decide +kernel
theorem d_M_count_80 : decode b_M_count 80 = .ok (.iconst 1, 1) := by decide +kernel
theorem d_M_count_81 : decode b_M_count 81 = .ok (.goto 4, 3) := by decide +kernel
theorem d_M_count_84 : decode b_M_count 84 = .ok (.iconst 0, 1) := by decide +kernel
theorem d_M_count_85 : decode b_M_count 85 = .ok (.iadd, 1) := by decide +kernel
theorem d_M_count_86 : decode b_M_count 86 = .ok (.istore_n 2, 1) := by decide +kernel
theorem d_M_count_87 : decode b_M_count 87 = .ok (.iinc 3 1, 3) := by decide +kernel
theorem d_M_count_90 : decode b_M_count 90 = .ok (.goto (-33), 3) := by decide +kernel
theorem d_M_count_93 : decode b_M_count 93 = .ok (.iconst 0, 1) := by decide +kernel
theorem d_M_count_94 : decode b_M_count 94 = .ok (.istore_n 3, 1) := by decide +kernel
theorem d_M_count_95 : decode b_M_count 95 = .ok (.iload_n 3, 1) := by decide +kernel
theorem d_M_count_96 : decode b_M_count 96 = .ok (.aload_n 0, 1) := by decide +kernel
theorem d_M_count_97 : decode b_M_count 97 = .ok (.getfield 88, 3) := by decide +kernel
theorem d_M_count_100 : decode b_M_count 100 = .ok (.if_icmp .ge 31, 3) := by decide +kernel
theorem d_M_count_103 : decode b_M_count 103 = .ok (.iload_n 1, 1) := by decide +kernel
theorem d_M_count_104 : decode b_M_count 104 = .ok (.iconst 3, 1) := by decide +kernel
theorem d_M_count_105 : decode b_M_count 105 = .ok (.if_icmp .ne 26, 3) := by decide +kernel
theorem d_M_count_108 : decode b_M_count 108 = .ok (.iload_n 2, 1) := by decide +kernel
theorem d_M_count_109 : decode b_M_count 109 = .ok (.aload_n 0, 1) := by decide +kernel
theorem d_M_count_110 : decode b_M_count 110 = .ok (.getfield 50, 3) := by decide +kernel
theorem d_M_count_113 : decode b_M_count 113 = .ok (.iload_n 3, 1) := by decide +kernel
theorem d_M_count_114 : decode b_M_count 114 = .ok (.baload, 1) := by decide +kernel
theorem d_M_count_115 : decode b_M_count 115 = .ok (.ifCond .eq 7, 3) := by decide +kernel
theorem d_M_count_118 : decode b_M_count 118 = .ok (.iconst 1, 1) := by decide +kernel
theorem d_M_count_119 : decode b_M_count 119 = .ok (.goto 4, 3) := by decide +kernel
theorem d_M_count_122 : decode b_M_count 122 = .ok (.iconst 0, 1) := by decide +kernel
theorem d_M_count_123 : decode b_M_count 123 = .ok (.iadd, 1) := by decide +kernel
theorem d_M_count_124 : decode b_M_count 124 = .ok (.istore_n 2, 1) := by decide +kernel
theorem d_M_count_125 : decode b_M_count 125 = .ok (.iinc 3 1, 3) := by decide +kernel
theorem d_M_count_128 : decode b_M_count 128 = .ok (.goto (-33), 3) := by decide +kernel
theorem d_M_count_131 : decode b_M_count 131 = .ok (.iload_n 1, 1) := by decide +kernel
theorem d_M_count_132 : decode b_M_count 132 = .ok (.ifCond .ne 10, 3) := by decide +kernel
theorem d_M_count_135 : decode b_M_count 135 = .ok (.aload_n 0, 1) := by decide +kernel
theorem d_M_count_136 : decode b_M_count 136 = .ok (.getfield 100, 3) := by decide +kernel
theorem d_M_count_139 : decode b_M_count 139 = .ok (.goto 16, 3) := by decide +kernel
theorem d_M_count_142 : decode b_M_count 142 = .ok (.iload_n 1, 1) := by decide +kernel
theorem d_M_count_143 : decode b_M_count 143 = .ok (.iconst 2, 1) := by decide +kernel
theorem d_M_count_144 : decode b_M_count 144 = .ok (.if_icmp .ne 10, 3) := by decide +kernel
theorem d_M_count_147 : decode b_M_count 147 = .ok (.aload_n 0, 1) := by decide +kernel
theorem d_M_count_148 : decode b_M_count 148 = .ok (.getfield 121, 3) := by decide +kernel
theorem d_M_count_151 : decode b_M_count 151 = .ok (.goto 4, 3) := by decide +kernel
theorem d_M_count_154 : decode b_M_count 154 = .ok (.iload_n 2, 1) := by decide +kernel
theorem d_M_count_155 : decode b_M_count 155 = .ok (.ireturn, 1) := by decide +kernel
end
section
def x00 : St := (fun _ _ => 0, fun _ => 0)
def wd_U (qU : Nat → Nat) (cI cZ cL : ClassId) (xU : St) : va_W := [(qU 0, .inr (1, [.ref (qU 1), .ref (qU 2), .ref (qU 3), .ref (qU 4), .ref (qU 5), .ref (qU 6), .ref (qU 7), .ref (qU 8), .ref (qU 9), .ref (qU 10), .int (xU.2 10)])), (qU 1, .inl (cI, 24, .inl (xU.1 0))), (qU 2, .inl (cI, 24, .inl (xU.1 1))), (qU 3, .inl (cI, 24, .inl (xU.1 2))), (qU 4, .inl (cI, 24, .inl (xU.1 3))), (qU 5, .inl (cI, 24, .inl (xU.1 4))), (qU 6, .inl (cI, 24, .inl (xU.1 5))), (qU 7, .inl (cI, 24, .inl (xU.1 6))), (qU 8, .inl (cI, 24, .inl (xU.1 7))), (qU 9, .inl (cI, 24, .inl (xU.1 8))), (qU 10, .inl (cI, 144, .inl (xU.1 9)))]

def wd_Uf (qU : Nat → Nat) (qf : Nat) (cI cZ cL : ClassId) (xU : St) (xf : Nat → Int32) : va_W := [(qU 0, .inr (1, [.ref (qU 1), .ref (qU 2), .ref (qU 3), .ref (qU 4), .ref (qU 5), .ref (qU 6), .ref (qU 7), .ref (qU 8), .ref (qU 9), .ref (qU 10), .int (xU.2 10)])), (qU 1, .inl (cI, 24, .inl (xU.1 0))), (qU 2, .inl (cI, 24, .inl (xU.1 1))), (qU 3, .inl (cI, 24, .inl (xU.1 2))), (qU 4, .inl (cI, 24, .inl (xU.1 3))), (qU 5, .inl (cI, 24, .inl (xU.1 4))), (qU 6, .inl (cI, 24, .inl (xU.1 5))), (qU 7, .inl (cI, 24, .inl (xU.1 6))), (qU 8, .inl (cI, 24, .inl (xU.1 7))), (qU 9, .inl (cI, 24, .inl (xU.1 8))), (qU 10, .inl (cI, 144, .inl (xU.1 9))), (qf, .inl (cI, 6, .inl xf))]

def wd_I (qI : Nat → Nat) (cI cZ cL : ClassId) (xI : St) : va_W := [(qI 0, .inr (0, [.ref (qI 1), .ref (qI 2), .ref (qI 3), .ref (qI 4), .ref (qI 5), .ref (qI 6), .ref (qI 7), .ref (qI 8), .ref (qI 9), .int (xI.2 9)])), (qI 1, .inl (cI, 20, .inl (xI.1 0))), (qI 2, .inl (cZ, 20, .inl (xI.1 1))), (qI 3, .inl (cZ, 20, .inl (xI.1 2))), (qI 4, .inl (cI, 20, .inl (xI.1 3))), (qI 5, .inl (cI, 20, .inl (xI.1 4))), (qI 6, .inl (cI, 20, .inl (xI.1 5))), (qI 7, .inl (cI, 20, .inl (xI.1 6))), (qI 8, .inl (cI, 20, .inl (xI.1 7))), (qI 9, .inl (cI, 20, .inl (xI.1 8)))]

def wd_W (qW : Nat → Nat) (cI cZ cL : ClassId) (xW : St) : va_W := [(qW 0, .inr (2, [.ref (qW 1), .int (xW.2 1)])), (qW 1, .inl (cI, 30, .inl (xW.1 0)))]

def wd_RUIW (qR : Nat → Nat) (qU : Nat → Nat) (qI : Nat → Nat) (qW : Nat → Nat) (cI cZ cL : ClassId) (xR : St) (xU : St) (xI : St) (xW : St) : va_W := [(qR 0, .inr (3, [.ref (qU 0), .ref (qI 0), .ref (qW 0), .ref (qR 4), .int (xR.2 4), .int (xR.2 5)])), (qR 4, .inl (cI, 6, .inl (xR.1 3))), (qU 0, .inr (1, [.ref (qU 1), .ref (qU 2), .ref (qU 3), .ref (qU 4), .ref (qU 5), .ref (qU 6), .ref (qU 7), .ref (qU 8), .ref (qU 9), .ref (qU 10), .int (xU.2 10)])), (qU 1, .inl (cI, 24, .inl (xU.1 0))), (qU 2, .inl (cI, 24, .inl (xU.1 1))), (qU 3, .inl (cI, 24, .inl (xU.1 2))), (qU 4, .inl (cI, 24, .inl (xU.1 3))), (qU 5, .inl (cI, 24, .inl (xU.1 4))), (qU 6, .inl (cI, 24, .inl (xU.1 5))), (qU 7, .inl (cI, 24, .inl (xU.1 6))), (qU 8, .inl (cI, 24, .inl (xU.1 7))), (qU 9, .inl (cI, 24, .inl (xU.1 8))), (qU 10, .inl (cI, 144, .inl (xU.1 9))), (qI 0, .inr (0, [.ref (qI 1), .ref (qI 2), .ref (qI 3), .ref (qI 4), .ref (qI 5), .ref (qI 6), .ref (qI 7), .ref (qI 8), .ref (qI 9), .int (xI.2 9)])), (qI 1, .inl (cI, 20, .inl (xI.1 0))), (qI 2, .inl (cZ, 20, .inl (xI.1 1))), (qI 3, .inl (cZ, 20, .inl (xI.1 2))), (qI 4, .inl (cI, 20, .inl (xI.1 3))), (qI 5, .inl (cI, 20, .inl (xI.1 4))), (qI 6, .inl (cI, 20, .inl (xI.1 5))), (qI 7, .inl (cI, 20, .inl (xI.1 6))), (qI 8, .inl (cI, 20, .inl (xI.1 7))), (qI 9, .inl (cI, 20, .inl (xI.1 8))), (qW 0, .inr (2, [.ref (qW 1), .int (xW.2 1)])), (qW 1, .inl (cI, 30, .inl (xW.1 0)))]
end
section
def wp_U_become (xU : St) (a1 : Int32) (a2 : Int32) (a3 : Int32) (post : St → Prop) : Prop := vp_in a1 24 ∧ (vp_in a1 24 ∧ (vp_in a1 24 ∧ (post (sA (sA (sA xU 5 a1.toNatClampNeg a2) 6 a1.toNatClampNeg (-1 : Int32)) 7 a1.toNatClampNeg a3))))
set_option maxHeartbeats 4000000 in
set_option maxRecDepth 100000 in
theorem c_U_become (l : Launch) (dC : Nat → ClassId) (dI : Nat → Nat → Nat) (cI cZ cL : ClassId) (qU : Nat → Nat) (sz : Nat) (xU : St) (a1 : Int32) (a2 : Int32) (a3 : Int32) (post : St → Prop) (hw : wp_U_become xU a1 a2 a3 post) : Met l y_U_become w_U_become ({ frames := 0, cells := 0, slots := 0, locals := 0 } : Room) (va_Pc [.ref (qU 0), .int a1, .int a2, .int a3] (xP (dC, dI) vwCl [(cI, .int), (cZ, .boolean), (cL, .long)] (wd_U qU cI cZ cL xU) sz)) (va_Qv post (xB (dC, dI) vwCl [(cI, .int), (cZ, .boolean), (cL, .long)] (va_A (wd_U qU cI cZ cL xU) sz) (fun u => (wd_U qU cI cZ cL u))) (va_A (wd_U qU cI cZ cL xU) sz)) 0 0 (va_A (wd_U qU cI cZ cL xU) sz) := by
  refine x_ofV (cc := b_U_become) (maxL := 4) (by decide) rfl (Nat.le_of_ble_eq_true rfl) (fun p e s m below meth c A Q hx hb hml hts hown hin hK hA hP hD hS hret ls hl => ?_)
  have hl : lv_has ls 4 [(0, .ref (qU 0)), (1, .int a1), (2, .int a2), (3, .int a3)] := hl
  unfold wp_U_become at hw
  refine lv_aload_n hx hb d_U_become_0 rfl (lv_at hl 0 rfl) ?_
  refine va_get (D := (dC, dI)) (ci := 1) (v := .ref (qU 6)) (C := "ReleaseRows$UnitRows") (T := T_U) (N := 11) hx hb hts in_U hown hK hP 0 rfl rfl 5 (by decide) (hts _ k_60) (fun _ h9 => h9) rfl d_U_become_1 ?_
  refine lv_iload_n hx hb d_U_become_4 rfl (lv_at hl 1 rfl) ?_
  refine lv_iload_n hx hb d_U_become_5 rfl (lv_at hl 2 rfl) ?_
  obtain ⟨h6, hw⟩ := hw
  refine va_iast hx hb hK hP hD hS 6 0 rfl rfl h6 d_U_become_6 (fun H locs hP hD hS => ?_)
  have hP : va_P (dC, dI) vwCl (wd_U qU cI cZ cL (sA xU 5 a1.toNatClampNeg a2)) H := hP
  have hD : va_D A (wd_U qU cI cZ cL (sA xU 5 a1.toNatClampNeg a2)) := hD
  refine lv_aload_n hx hb d_U_become_7 rfl (lv_at hl 0 rfl) ?_
  refine va_get (D := (dC, dI)) (ci := 1) (v := .ref (qU 7)) (C := "ReleaseRows$UnitRows") (T := T_U) (N := 11) hx hb hts in_U hown hK hP 0 rfl rfl 6 (by decide) (hts _ k_62) (fun _ h9 => h9) rfl d_U_become_8 ?_
  refine lv_iload_n hx hb d_U_become_11 rfl (lv_at hl 1 rfl) ?_
  refine lv_iconst (v := (-1 : Int32)) hx hb d_U_become_12 (by decide) ?_
  obtain ⟨h13, hw⟩ := hw
  refine va_iast hx hb hK hP hD hS 7 0 rfl rfl h13 d_U_become_13 (fun H locs hP hD hS => ?_)
  have hP : va_P (dC, dI) vwCl (wd_U qU cI cZ cL (sA (sA xU 5 a1.toNatClampNeg a2) 6 a1.toNatClampNeg (-1 : Int32))) H := hP
  have hD : va_D A (wd_U qU cI cZ cL (sA (sA xU 5 a1.toNatClampNeg a2) 6 a1.toNatClampNeg (-1 : Int32))) := hD
  refine lv_aload_n hx hb d_U_become_14 rfl (lv_at hl 0 rfl) ?_
  refine va_get (D := (dC, dI)) (ci := 1) (v := .ref (qU 8)) (C := "ReleaseRows$UnitRows") (T := T_U) (N := 11) hx hb hts in_U hown hK hP 0 rfl rfl 7 (by decide) (hts _ k_64) (fun _ h9 => h9) rfl d_U_become_15 ?_
  refine lv_iload_n hx hb d_U_become_18 rfl (lv_at hl 1 rfl) ?_
  refine lv_iload_n hx hb d_U_become_19 rfl (lv_at hl 3 rfl) ?_
  obtain ⟨h20, hw⟩ := hw
  refine va_iast hx hb hK hP hD hS 8 0 rfl rfl h20 d_U_become_20 (fun H locs hP hD hS => ?_)
  have hP : va_P (dC, dI) vwCl (wd_U qU cI cZ cL (sA (sA (sA xU 5 a1.toNatClampNeg a2) 6 a1.toNatClampNeg (-1 : Int32)) 7 a1.toNatClampNeg a3)) H := hP
  have hD : va_D A (wd_U qU cI cZ cL (sA (sA (sA xU 5 a1.toNatClampNeg a2) 6 a1.toNatClampNeg (-1 : Int32)) 7 a1.toNatClampNeg a3)) := hD
  exact hret (sA (sA (sA xU 5 a1.toNatClampNeg a2) 6 a1.toNatClampNeg (-1 : Int32)) 7 a1.toNatClampNeg a3) _ _ _ _ _ _ hw hP hD hS (Nat.le_of_ble_eq_true rfl) (Nat.le_of_ble_eq_true rfl) d_U_become_21

def wj_U_has_16 (xU : St) (a1 : Int32) (post : Int32 → Unit → Prop)  : Prop := post (0 : Int32) ()
def wp_U_has (xU : St) (a1 : Int32) (post : Int32 → Unit → Prop) : Prop := (a1 < 0 → (wj_U_has_16 xU a1 post )) ∧ (¬ a1 < 0 → (((xU.2 10) ≤ a1 → (wj_U_has_16 xU a1 post )) ∧ (¬ (xU.2 10) ≤ a1 → (post (1 : Int32) ()))))
set_option maxHeartbeats 4000000 in
set_option maxRecDepth 100000 in
theorem c_U_has (l : Launch) (dC : Nat → ClassId) (dI : Nat → Nat → Nat) (cI cZ cL : ClassId) (qU : Nat → Nat) (sz : Nat) (xU : St) (a1 : Int32) (post : Int32 → Unit → Prop) (hw : wp_U_has xU a1 post) : Met l y_U_has w_U_has ({ frames := 0, cells := 0, slots := 0, locals := 0 } : Room) (va_Pc [.ref (qU 0), .int a1] (xP (dC, dI) vwCl [(cI, .int), (cZ, .boolean), (cL, .long)] (wd_U qU cI cZ cL xU) sz)) (va_Qi post (xB (dC, dI) vwCl [(cI, .int), (cZ, .boolean), (cL, .long)] (va_A (wd_U qU cI cZ cL xU) sz) (fun _ => (wd_U qU cI cZ cL xU))) (va_A (wd_U qU cI cZ cL xU) sz)) 0 0 (va_A (wd_U qU cI cZ cL xU) sz) := by
  refine x_ofI (cc := b_U_has) (maxL := 2) (by decide) rfl (Nat.le_of_ble_eq_true rfl) (fun p e s m below meth c A Q hx hb hml hts hown hK hA hP hD hS hret ls hl => ?_)
  have hl : lv_has ls 2 [(0, .ref (qU 0)), (1, .int a1)] := hl
  have jn16 : ∀ (H : Heap) (locs : List Loc) (ls : Array Slot), wj_U_has_16 xU a1 post  → va_P (dC, dI) vwCl (wd_U qU cI cZ cL xU) H → va_D A (wd_U qU cI cZ cL xU) → va_S A s.heap H locs → lv_has ls 2 [] → W p l e (headSpec w_U_has ({ frames := 0, cells := 0, slots := 0, locals := 0 } : Room)).room s m ([.ref (qU 0), .int a1] : List Value).toArray below meth c H locs 0 0 Q (F0 m 16 ls []) := by
    intro  H locs ls hw hP hD hS hl
    unfold wj_U_has_16 at hw
    refine lv_iconst (v := (0 : Int32)) hx hb d_U_has_16 (by decide) ?_
    exact hret (0 : Int32) () _ _ _ _ _ _ (by decide) hw hP hD hS (Nat.le_of_ble_eq_true rfl) (Nat.le_of_ble_eq_true rfl) d_U_has_17
  unfold wp_U_has at hw
  refine lv_iload_n hx hb d_U_has_0 rfl (lv_at hl 1 rfl) ?_
  refine lv_if_lt (tgt := 16) hx hb d_U_has_1 (by decide) (fun c1 => ?_) (fun c1 => ?_)
  · have hw := hw.1 c1
    exact jn16 _ _ _ hw hP hD hS (lv_sub hl [] rfl)
  · have hw := hw.2 c1
    refine lv_iload_n hx hb d_U_has_4 rfl (lv_at hl 1 rfl) ?_
    refine lv_aload_n hx hb d_U_has_5 rfl (lv_at hl 0 rfl) ?_
    refine va_get (D := (dC, dI)) (ci := 1) (v := .int (xU.2 10)) (C := "ReleaseRows$UnitRows") (T := T_U) (N := 11) hx hb hts in_U hown hK hP 0 rfl rfl 10 (by decide) (hts _ k_70) (fun _ h9 => h9) rfl d_U_has_6 ?_
    refine lv_icmp_ge (tgt := 16) hx hb d_U_has_9 (by decide) (fun c9 => ?_) (fun c9 => ?_)
    · have hw := hw.1 c9
      exact jn16 _ _ _ hw hP hD hS (lv_sub hl [] rfl)
    · have hw := hw.2 c9
      refine lv_iconst (v := (1 : Int32)) hx hb d_U_has_12 (by decide) ?_
      refine lv_goto (tgt := 17) hx hb d_U_has_13 (by decide) ?_
      exact hret (1 : Int32) () _ _ _ _ _ _ (by decide) hw hP hD hS (Nat.le_of_ble_eq_true rfl) (Nat.le_of_ble_eq_true rfl) d_U_has_17

def wp_U_addUnit (xU : St) (a1 : Int32) (a2 : Int32) (post : Int32 → St → Prop) : Prop := ∀ v3_4 : Int32, v3_4 = (xU.2 10) → (vp_in v3_4 24 ∧ (wp_U_become (sA (sF xU 10 ((xU.2 10) + (1 : Int32))) 0 v3_4.toNatClampNeg a1) v3_4 (0 : Int32) a2 (fun u26 => (post v3_4 u26))))
set_option maxHeartbeats 4000000 in
set_option maxRecDepth 100000 in
theorem c_U_addUnit (l : Launch) (dC : Nat → ClassId) (dI : Nat → Nat → Nat) (cI cZ cL : ClassId) (qU : Nat → Nat) (sz : Nat) (xU : St) (a1 : Int32) (a2 : Int32) (post : Int32 → St → Prop) (hw : wp_U_addUnit xU a1 a2 post) : Met l y_U_addUnit w_U_addUnit ({ frames := 1, cells := 0, slots := 0, locals := 23 } : Room) (va_Pc [.ref (qU 0), .int a1, .int a2] (xP (dC, dI) vwCl [(cI, .int), (cZ, .boolean), (cL, .long)] (wd_U qU cI cZ cL xU) sz)) (va_Qi post (xB (dC, dI) vwCl [(cI, .int), (cZ, .boolean), (cL, .long)] (va_A (wd_U qU cI cZ cL xU) sz) (fun u => (wd_U qU cI cZ cL u))) (va_A (wd_U qU cI cZ cL xU) sz)) 0 0 (va_A (wd_U qU cI cZ cL xU) sz) := by
  refine x_ofI (cc := b_U_addUnit) (maxL := 4) (by decide) rfl (Nat.le_of_ble_eq_true rfl) (fun p e s m below meth c A Q hx hb hml hts hown hK hA hP hD hS hret ls hl => ?_)
  have hl : lv_has ls 4 [(0, .ref (qU 0)), (1, .int a1), (2, .int a2)] := hl
  unfold wp_U_addUnit at hw
  refine lv_aload_n hx hb d_U_addUnit_0 rfl (lv_at hl 0 rfl) ?_
  refine va_get (D := (dC, dI)) (ci := 1) (v := .int (xU.2 10)) (C := "ReleaseRows$UnitRows") (T := T_U) (N := 11) hx hb hts in_U hown hK hP 0 rfl rfl 10 (by decide) (hts _ k_70) (fun _ h9 => h9) rfl d_U_addUnit_1 ?_
  refine lv_topi (fun v3_4 ev3_4 => ?_)
  have hw := hw v3_4 ev3_4
  refine lv_istore_n (lv' := [(3, .int v3_4), (0, .ref (qU 0)), (1, .int a1), (2, .int a2)]) hx hb d_U_addUnit_4 rfl hl (by decide) rfl (fun ls hl => ?_)
  refine lv_aload_n hx hb d_U_addUnit_5 rfl (lv_at hl 1 rfl) ?_
  refine lv_dup hx hb d_U_addUnit_6 rfl ?_
  refine va_get (D := (dC, dI)) (ci := 1) (v := .int (xU.2 10)) (C := "ReleaseRows$UnitRows") (T := T_U) (N := 11) hx hb hts in_U hown hK hP 0 rfl rfl 10 (by decide) (hts _ k_70) (fun _ h9 => h9) rfl d_U_addUnit_7 ?_
  refine lv_iconst (v := (1 : Int32)) hx hb d_U_addUnit_10 (by decide) ?_
  refine lv_iadd hx hb d_U_addUnit_11 ?_
  refine va_put (D := (dC, dI)) (ci := 1) (v := .int ((xU.2 10) + (1 : Int32))) (ty := .int) (C := "ReleaseRows$UnitRows") (T := T_U) (N := 11) hx hb hts in_U ty_U tyok_U nm_U hown hK hP hD hS 0 rfl rfl 10 (by decide) (hts _ k_70) (fun _ h9 => h9) rfl (by decide +kernel) rfl rfl (Nat.le_of_ble_eq_true rfl) d_U_addUnit_12 (fun H locs hP hD hS => ?_)
  have hP : va_P (dC, dI) vwCl (wd_U qU cI cZ cL (sF xU 10 ((xU.2 10) + (1 : Int32)))) H := hP
  have hD : va_D A (wd_U qU cI cZ cL (sF xU 10 ((xU.2 10) + (1 : Int32)))) := hD
  refine lv_aload_n hx hb d_U_addUnit_15 rfl (lv_at hl 1 rfl) ?_
  refine va_get (D := (dC, dI)) (ci := 1) (v := .ref (qU 1)) (C := "ReleaseRows$UnitRows") (T := T_U) (N := 11) hx hb hts in_U hown hK hP 0 rfl rfl 0 (by decide) (hts _ k_53) (fun _ h9 => h9) rfl d_U_addUnit_16 ?_
  refine lv_iload_n hx hb d_U_addUnit_19 rfl (lv_at hl 0 rfl) ?_
  refine lv_iload_n hx hb d_U_addUnit_20 rfl (lv_at hl 2 rfl) ?_
  obtain ⟨h21, hw⟩ := hw
  refine va_iast hx hb hK hP hD hS 1 0 rfl rfl h21 d_U_addUnit_21 (fun H locs hP hD hS => ?_)
  have hP : va_P (dC, dI) vwCl (wd_U qU cI cZ cL (sA (sF xU 10 ((xU.2 10) + (1 : Int32))) 0 v3_4.toNatClampNeg a1)) H := hP
  have hD : va_D A (wd_U qU cI cZ cL (sA (sF xU 10 ((xU.2 10) + (1 : Int32))) 0 v3_4.toNatClampNeg a1)) := hD
  refine lv_aload_n hx hb d_U_addUnit_22 rfl (lv_at hl 1 rfl) ?_
  refine lv_iload_n hx hb d_U_addUnit_23 rfl (lv_at hl 0 rfl) ?_
  refine lv_iconst (v := (0 : Int32)) hx hb d_U_addUnit_24 (by decide) ?_
  refine lv_iload_n hx hb d_U_addUnit_25 rfl (lv_at hl 3 rfl) ?_
  refine x_cv (w2 := fun u26 => (wd_U qU cI cZ cL u26)) [0, 1, 2, 3, 4, 5, 6, 7, 8, 9, 10] [] [0, 1, 2, 3, 4, 5, 6, 7, 8, 9, 10] (va_runV (As := [.int v3_4, .int (0 : Int32), .int a2]) (rest := []) ⟨hx, hb, hml, hown, hts⟩ (c_U_become l dC dI cI cZ cL qU _ (sA (sF xU 10 ((xU.2 10) + (1 : Int32))) 0 v3_4.toNatClampNeg a1) v3_4 (0 : Int32) a2 _ hw) (cwV 3 hts (x_gV k_281 k_282 k_283 k_27 k_284) rfl rfl rfl (by decide +kernel) ⟨Nat.le_of_ble_eq_true rfl, Nat.le_of_ble_eq_true rfl⟩) ⟨x_blind, va_recv hK hP (ci := 1) (q0 := 0) rfl rfl, fun U hU hW => x_pre (isC := [0, 1, 2, 3, 4, 5, 6, 7, 8, 9, 10]) hK hP hD rfl rfl hU hW⟩ rfl rfl hl.1 rfl (lv_room (Nat.le_of_ble_eq_true rfl)) d_U_addUnit_26 ⟨Nat.le_of_ble_eq_true rfl, Nat.le_of_ble_eq_true rfl⟩) hP hD hS hA rfl rfl rfl (by decide) (fun _ => rfl) rfl (fun u26 H locs hw hP hD hS => ?_)
  refine lv_iload_n hx hb d_U_addUnit_29 rfl (lv_at hl 0 rfl) ?_
  exact hret v3_4 u26 _ _ _ _ _ _ rfl hw hP hD hS (Nat.le_of_ble_eq_true rfl) (Nat.le_of_ble_eq_true rfl) d_U_addUnit_30

def wp_U_setWork (xU : St) (a1 : Int32) (a2 : Int32) (a3 : Int32) (a4 : Int32) (post : St → Prop) : Prop := vp_in a1 24 ∧ (vp_in a1 24 ∧ (vp_in a1 24 ∧ (post (sA (sA (sA xU 1 a1.toNatClampNeg a2) 2 a1.toNatClampNeg a3) 3 a1.toNatClampNeg a4))))
set_option maxHeartbeats 4000000 in
set_option maxRecDepth 100000 in
theorem c_U_setWork (l : Launch) (dC : Nat → ClassId) (dI : Nat → Nat → Nat) (cI cZ cL : ClassId) (qU : Nat → Nat) (sz : Nat) (xU : St) (a1 : Int32) (a2 : Int32) (a3 : Int32) (a4 : Int32) (post : St → Prop) (hw : wp_U_setWork xU a1 a2 a3 a4 post) : Met l y_U_setWork w_U_setWork ({ frames := 0, cells := 0, slots := 0, locals := 0 } : Room) (va_Pc [.ref (qU 0), .int a1, .int a2, .int a3, .int a4] (xP (dC, dI) vwCl [(cI, .int), (cZ, .boolean), (cL, .long)] (wd_U qU cI cZ cL xU) sz)) (va_Qv post (xB (dC, dI) vwCl [(cI, .int), (cZ, .boolean), (cL, .long)] (va_A (wd_U qU cI cZ cL xU) sz) (fun u => (wd_U qU cI cZ cL u))) (va_A (wd_U qU cI cZ cL xU) sz)) 0 0 (va_A (wd_U qU cI cZ cL xU) sz) := by
  refine x_ofV (cc := b_U_setWork) (maxL := 5) (by decide) rfl (Nat.le_of_ble_eq_true rfl) (fun p e s m below meth c A Q hx hb hml hts hown hin hK hA hP hD hS hret ls hl => ?_)
  have hl : lv_has ls 5 [(0, .ref (qU 0)), (1, .int a1), (2, .int a2), (3, .int a3), (4, .int a4)] := hl
  unfold wp_U_setWork at hw
  refine lv_aload_n hx hb d_U_setWork_0 rfl (lv_at hl 0 rfl) ?_
  refine va_get (D := (dC, dI)) (ci := 1) (v := .ref (qU 2)) (C := "ReleaseRows$UnitRows") (T := T_U) (N := 11) hx hb hts in_U hown hK hP 0 rfl rfl 1 (by decide) (hts _ k_55) (fun _ h9 => h9) rfl d_U_setWork_1 ?_
  refine lv_iload_n hx hb d_U_setWork_4 rfl (lv_at hl 1 rfl) ?_
  refine lv_iload_n hx hb d_U_setWork_5 rfl (lv_at hl 2 rfl) ?_
  obtain ⟨h6, hw⟩ := hw
  refine va_iast hx hb hK hP hD hS 2 0 rfl rfl h6 d_U_setWork_6 (fun H locs hP hD hS => ?_)
  have hP : va_P (dC, dI) vwCl (wd_U qU cI cZ cL (sA xU 1 a1.toNatClampNeg a2)) H := hP
  have hD : va_D A (wd_U qU cI cZ cL (sA xU 1 a1.toNatClampNeg a2)) := hD
  refine lv_aload_n hx hb d_U_setWork_7 rfl (lv_at hl 0 rfl) ?_
  refine va_get (D := (dC, dI)) (ci := 1) (v := .ref (qU 3)) (C := "ReleaseRows$UnitRows") (T := T_U) (N := 11) hx hb hts in_U hown hK hP 0 rfl rfl 2 (by decide) (hts _ k_56) (fun _ h9 => h9) rfl d_U_setWork_8 ?_
  refine lv_iload_n hx hb d_U_setWork_11 rfl (lv_at hl 1 rfl) ?_
  refine lv_iload_n hx hb d_U_setWork_12 rfl (lv_at hl 3 rfl) ?_
  obtain ⟨h13, hw⟩ := hw
  refine va_iast hx hb hK hP hD hS 3 0 rfl rfl h13 d_U_setWork_13 (fun H locs hP hD hS => ?_)
  have hP : va_P (dC, dI) vwCl (wd_U qU cI cZ cL (sA (sA xU 1 a1.toNatClampNeg a2) 2 a1.toNatClampNeg a3)) H := hP
  have hD : va_D A (wd_U qU cI cZ cL (sA (sA xU 1 a1.toNatClampNeg a2) 2 a1.toNatClampNeg a3)) := hD
  refine lv_aload_n hx hb d_U_setWork_14 rfl (lv_at hl 0 rfl) ?_
  refine va_get (D := (dC, dI)) (ci := 1) (v := .ref (qU 4)) (C := "ReleaseRows$UnitRows") (T := T_U) (N := 11) hx hb hts in_U hown hK hP 0 rfl rfl 3 (by decide) (hts _ k_57) (fun _ h9 => h9) rfl d_U_setWork_15 ?_
  refine lv_iload_n hx hb d_U_setWork_18 rfl (lv_at hl 1 rfl) ?_
  refine lv_iload hx hb d_U_setWork_19 (lv_at hl 4 rfl) ?_
  obtain ⟨h21, hw⟩ := hw
  refine va_iast hx hb hK hP hD hS 4 0 rfl rfl h21 d_U_setWork_21 (fun H locs hP hD hS => ?_)
  have hP : va_P (dC, dI) vwCl (wd_U qU cI cZ cL (sA (sA (sA xU 1 a1.toNatClampNeg a2) 2 a1.toNatClampNeg a3) 3 a1.toNatClampNeg a4)) H := hP
  have hD : va_D A (wd_U qU cI cZ cL (sA (sA (sA xU 1 a1.toNatClampNeg a2) 2 a1.toNatClampNeg a3) 3 a1.toNatClampNeg a4)) := hD
  exact hret (sA (sA (sA xU 1 a1.toNatClampNeg a2) 2 a1.toNatClampNeg a3) 3 a1.toNatClampNeg a4) _ _ _ _ _ _ hw hP hD hS (Nat.le_of_ble_eq_true rfl) (Nat.le_of_ble_eq_true rfl) d_U_setWork_22

def wp_U_goTo (xU : St) (a1 : Int32) (a2 : Int32) (a3 : Int32) (post : St → Prop) : Prop := wp_U_become xU a1 (1 : Int32) a3 (fun u4 => (vp_in a1 24 ∧ (vp_in a1 24 ∧ (vp_in a1 24 ∧ (post (sA (sA u4 6 a1.toNatClampNeg a2) 8 a1.toNatClampNeg (((sA u4 6 a1.toNatClampNeg a2).1 8 a1.toNatClampNeg) + (1 : Int32))))))))
set_option maxHeartbeats 4000000 in
set_option maxRecDepth 100000 in
theorem c_U_goTo (l : Launch) (dC : Nat → ClassId) (dI : Nat → Nat → Nat) (cI cZ cL : ClassId) (qU : Nat → Nat) (sz : Nat) (xU : St) (a1 : Int32) (a2 : Int32) (a3 : Int32) (post : St → Prop) (hw : wp_U_goTo xU a1 a2 a3 post) : Met l y_U_goTo w_U_goTo ({ frames := 1, cells := 0, slots := 0, locals := 23 } : Room) (va_Pc [.ref (qU 0), .int a1, .int a2, .int a3] (xP (dC, dI) vwCl [(cI, .int), (cZ, .boolean), (cL, .long)] (wd_U qU cI cZ cL xU) sz)) (va_Qv post (xB (dC, dI) vwCl [(cI, .int), (cZ, .boolean), (cL, .long)] (va_A (wd_U qU cI cZ cL xU) sz) (fun u => (wd_U qU cI cZ cL u))) (va_A (wd_U qU cI cZ cL xU) sz)) 0 0 (va_A (wd_U qU cI cZ cL xU) sz) := by
  refine x_ofV (cc := b_U_goTo) (maxL := 4) (by decide) rfl (Nat.le_of_ble_eq_true rfl) (fun p e s m below meth c A Q hx hb hml hts hown hin hK hA hP hD hS hret ls hl => ?_)
  have hl : lv_has ls 4 [(0, .ref (qU 0)), (1, .int a1), (2, .int a2), (3, .int a3)] := hl
  unfold wp_U_goTo at hw
  refine lv_aload_n hx hb d_U_goTo_0 rfl (lv_at hl 0 rfl) ?_
  refine lv_iload_n hx hb d_U_goTo_1 rfl (lv_at hl 1 rfl) ?_
  refine lv_iconst (v := (1 : Int32)) hx hb d_U_goTo_2 (by decide) ?_
  refine lv_iload_n hx hb d_U_goTo_3 rfl (lv_at hl 3 rfl) ?_
  refine x_cv (w2 := fun u4 => (wd_U qU cI cZ cL u4)) [0, 1, 2, 3, 4, 5, 6, 7, 8, 9, 10] [] [0, 1, 2, 3, 4, 5, 6, 7, 8, 9, 10] (va_runV (As := [.int a1, .int (1 : Int32), .int a3]) (rest := []) ⟨hx, hb, hml, hown, hts⟩ (c_U_become l dC dI cI cZ cL qU _ xU a1 (1 : Int32) a3 _ hw) (cwV 3 hts (x_gV k_281 k_282 k_283 k_27 k_284) rfl rfl rfl (by decide +kernel) ⟨Nat.le_of_ble_eq_true rfl, Nat.le_of_ble_eq_true rfl⟩) ⟨x_blind, va_recv hK hP (ci := 1) (q0 := 0) rfl rfl, fun U hU hW => x_pre (isC := [0, 1, 2, 3, 4, 5, 6, 7, 8, 9, 10]) hK hP hD rfl rfl hU hW⟩ rfl rfl hl.1 rfl (lv_room (Nat.le_of_ble_eq_true rfl)) d_U_goTo_4 ⟨Nat.le_of_ble_eq_true rfl, Nat.le_of_ble_eq_true rfl⟩) hP hD hS hA rfl rfl rfl (by decide) (fun _ => rfl) rfl (fun u4 H locs hw hP hD hS => ?_)
  refine lv_aload_n hx hb d_U_goTo_7 rfl (lv_at hl 0 rfl) ?_
  refine va_get (D := (dC, dI)) (ci := 1) (v := .ref (qU 7)) (C := "ReleaseRows$UnitRows") (T := T_U) (N := 11) hx hb hts in_U hown hK hP 0 rfl rfl 6 (by decide) (hts _ k_62) (fun _ h9 => h9) rfl d_U_goTo_8 ?_
  refine lv_iload_n hx hb d_U_goTo_11 rfl (lv_at hl 1 rfl) ?_
  refine lv_iload_n hx hb d_U_goTo_12 rfl (lv_at hl 2 rfl) ?_
  obtain ⟨h13, hw⟩ := hw
  refine va_iast hx hb hK hP hD hS 7 0 rfl rfl h13 d_U_goTo_13 (fun H locs hP hD hS => ?_)
  have hP : va_P (dC, dI) vwCl (wd_U qU cI cZ cL (sA u4 6 a1.toNatClampNeg a2)) H := hP
  have hD : va_D A (wd_U qU cI cZ cL (sA u4 6 a1.toNatClampNeg a2)) := hD
  refine lv_aload_n hx hb d_U_goTo_14 rfl (lv_at hl 0 rfl) ?_
  refine va_get (D := (dC, dI)) (ci := 1) (v := .ref (qU 9)) (C := "ReleaseRows$UnitRows") (T := T_U) (N := 11) hx hb hts in_U hown hK hP 0 rfl rfl 8 (by decide) (hts _ k_66) (fun _ h9 => h9) rfl d_U_goTo_15 ?_
  refine lv_iload_n hx hb d_U_goTo_18 rfl (lv_at hl 1 rfl) ?_
  refine lv_dup2_11 hx hb d_U_goTo_19 rfl rfl ?_
  obtain ⟨h20, hw⟩ := hw
  refine va_iald hx hb hK hP 9 0 rfl rfl h20 d_U_goTo_20 ?_
  refine lv_iconst (v := (1 : Int32)) hx hb d_U_goTo_21 (by decide) ?_
  refine lv_iadd hx hb d_U_goTo_22 ?_
  obtain ⟨h23, hw⟩ := hw
  refine va_iast hx hb hK hP hD hS 9 0 rfl rfl h23 d_U_goTo_23 (fun H locs hP hD hS => ?_)
  have hP : va_P (dC, dI) vwCl (wd_U qU cI cZ cL (sA (sA u4 6 a1.toNatClampNeg a2) 8 a1.toNatClampNeg (((sA u4 6 a1.toNatClampNeg a2).1 8 a1.toNatClampNeg) + (1 : Int32)))) H := hP
  have hD : va_D A (wd_U qU cI cZ cL (sA (sA u4 6 a1.toNatClampNeg a2) 8 a1.toNatClampNeg (((sA u4 6 a1.toNatClampNeg a2).1 8 a1.toNatClampNeg) + (1 : Int32)))) := hD
  exact hret (sA (sA u4 6 a1.toNatClampNeg a2) 8 a1.toNatClampNeg (((sA u4 6 a1.toNatClampNeg a2).1 8 a1.toNatClampNeg) + (1 : Int32))) _ _ _ _ _ _ hw hP hD hS (Nat.le_of_ble_eq_true rfl) (Nat.le_of_ble_eq_true rfl) d_U_goTo_24

def wp_U_workEnd (xU : St) (a1 : Int32) (post : Int32 → Unit → Prop) : Prop := vp_in a1 24 ∧ ((¬ (xU.1 5 a1.toNatClampNeg) = (3 : Int32) → (vp_in a1 24 ∧ ((¬ (xU.1 5 a1.toNatClampNeg) = (4 : Int32) → (post (-1 : Int32) ())) ∧ ((xU.1 5 a1.toNatClampNeg) = (4 : Int32) → (vp_in a1 24 ∧ (vp_in a1 24 ∧ (post ((xU.1 7 a1.toNatClampNeg) + (xU.1 2 a1.toNatClampNeg)) ()))))))) ∧ ((xU.1 5 a1.toNatClampNeg) = (3 : Int32) → (vp_in a1 24 ∧ (vp_in a1 24 ∧ (post ((xU.1 7 a1.toNatClampNeg) + (xU.1 1 a1.toNatClampNeg)) ())))))
set_option maxHeartbeats 4000000 in
set_option maxRecDepth 100000 in
theorem c_U_workEnd (l : Launch) (dC : Nat → ClassId) (dI : Nat → Nat → Nat) (cI cZ cL : ClassId) (qU : Nat → Nat) (sz : Nat) (xU : St) (a1 : Int32) (post : Int32 → Unit → Prop) (hw : wp_U_workEnd xU a1 post) : Met l y_U_workEnd w_U_workEnd ({ frames := 0, cells := 0, slots := 0, locals := 0 } : Room) (va_Pc [.ref (qU 0), .int a1] (xP (dC, dI) vwCl [(cI, .int), (cZ, .boolean), (cL, .long)] (wd_U qU cI cZ cL xU) sz)) (va_Qi post (xB (dC, dI) vwCl [(cI, .int), (cZ, .boolean), (cL, .long)] (va_A (wd_U qU cI cZ cL xU) sz) (fun _ => (wd_U qU cI cZ cL xU))) (va_A (wd_U qU cI cZ cL xU) sz)) 0 0 (va_A (wd_U qU cI cZ cL xU) sz) := by
  refine x_ofI (cc := b_U_workEnd) (maxL := 2) (by decide) rfl (Nat.le_of_ble_eq_true rfl) (fun p e s m below meth c A Q hx hb hml hts hown hK hA hP hD hS hret ls hl => ?_)
  have hl : lv_has ls 2 [(0, .ref (qU 0)), (1, .int a1)] := hl
  unfold wp_U_workEnd at hw
  refine lv_aload_n hx hb d_U_workEnd_0 rfl (lv_at hl 0 rfl) ?_
  refine va_get (D := (dC, dI)) (ci := 1) (v := .ref (qU 6)) (C := "ReleaseRows$UnitRows") (T := T_U) (N := 11) hx hb hts in_U hown hK hP 0 rfl rfl 5 (by decide) (hts _ k_60) (fun _ h9 => h9) rfl d_U_workEnd_1 ?_
  refine lv_iload_n hx hb d_U_workEnd_4 rfl (lv_at hl 1 rfl) ?_
  obtain ⟨h5, hw⟩ := hw
  refine va_iald hx hb hK hP 6 0 rfl rfl h5 d_U_workEnd_5 ?_
  refine lv_iconst (v := (3 : Int32)) hx hb d_U_workEnd_6 (by decide) ?_
  refine lv_icmp_ne (tgt := 24) hx hb d_U_workEnd_7 (by decide) (fun c7 => ?_) (fun c7 => ?_)
  · have hw := hw.1 c7
    refine lv_aload_n hx hb d_U_workEnd_24 rfl (lv_at hl 0 rfl) ?_
    refine va_get (D := (dC, dI)) (ci := 1) (v := .ref (qU 6)) (C := "ReleaseRows$UnitRows") (T := T_U) (N := 11) hx hb hts in_U hown hK hP 0 rfl rfl 5 (by decide) (hts _ k_60) (fun _ h9 => h9) rfl d_U_workEnd_25 ?_
    refine lv_iload_n hx hb d_U_workEnd_28 rfl (lv_at hl 1 rfl) ?_
    obtain ⟨h29, hw⟩ := hw
    refine va_iald hx hb hK hP 6 0 rfl rfl h29 d_U_workEnd_29 ?_
    refine lv_iconst (v := (4 : Int32)) hx hb d_U_workEnd_30 (by decide) ?_
    refine lv_icmp_ne (tgt := 50) hx hb d_U_workEnd_31 (by decide) (fun c31 => ?_) (fun c31 => ?_)
    · have hw := hw.1 c31
      refine lv_iconst (v := (-1 : Int32)) hx hb d_U_workEnd_50 (by decide) ?_
      exact hret (-1 : Int32) () _ _ _ _ _ _ rfl hw hP hD hS (Nat.le_of_ble_eq_true rfl) (Nat.le_of_ble_eq_true rfl) d_U_workEnd_51
    · have hw := hw.2 c31
      refine lv_aload_n hx hb d_U_workEnd_34 rfl (lv_at hl 0 rfl) ?_
      refine va_get (D := (dC, dI)) (ci := 1) (v := .ref (qU 8)) (C := "ReleaseRows$UnitRows") (T := T_U) (N := 11) hx hb hts in_U hown hK hP 0 rfl rfl 7 (by decide) (hts _ k_64) (fun _ h9 => h9) rfl d_U_workEnd_35 ?_
      refine lv_iload_n hx hb d_U_workEnd_38 rfl (lv_at hl 1 rfl) ?_
      obtain ⟨h39, hw⟩ := hw
      refine va_iald hx hb hK hP 8 0 rfl rfl h39 d_U_workEnd_39 ?_
      refine lv_aload_n hx hb d_U_workEnd_40 rfl (lv_at hl 0 rfl) ?_
      refine va_get (D := (dC, dI)) (ci := 1) (v := .ref (qU 3)) (C := "ReleaseRows$UnitRows") (T := T_U) (N := 11) hx hb hts in_U hown hK hP 0 rfl rfl 2 (by decide) (hts _ k_56) (fun _ h9 => h9) rfl d_U_workEnd_41 ?_
      refine lv_iload_n hx hb d_U_workEnd_44 rfl (lv_at hl 1 rfl) ?_
      obtain ⟨h45, hw⟩ := hw
      refine va_iald hx hb hK hP 3 0 rfl rfl h45 d_U_workEnd_45 ?_
      refine lv_iadd hx hb d_U_workEnd_46 ?_
      refine lv_goto (tgt := 51) hx hb d_U_workEnd_47 (by decide) ?_
      exact hret ((xU.1 7 a1.toNatClampNeg) + (xU.1 2 a1.toNatClampNeg)) () _ _ _ _ _ _ rfl hw hP hD hS (Nat.le_of_ble_eq_true rfl) (Nat.le_of_ble_eq_true rfl) d_U_workEnd_51
  · have hw := hw.2 c7
    refine lv_aload_n hx hb d_U_workEnd_10 rfl (lv_at hl 0 rfl) ?_
    refine va_get (D := (dC, dI)) (ci := 1) (v := .ref (qU 8)) (C := "ReleaseRows$UnitRows") (T := T_U) (N := 11) hx hb hts in_U hown hK hP 0 rfl rfl 7 (by decide) (hts _ k_64) (fun _ h9 => h9) rfl d_U_workEnd_11 ?_
    refine lv_iload_n hx hb d_U_workEnd_14 rfl (lv_at hl 1 rfl) ?_
    obtain ⟨h15, hw⟩ := hw
    refine va_iald hx hb hK hP 8 0 rfl rfl h15 d_U_workEnd_15 ?_
    refine lv_aload_n hx hb d_U_workEnd_16 rfl (lv_at hl 0 rfl) ?_
    refine va_get (D := (dC, dI)) (ci := 1) (v := .ref (qU 2)) (C := "ReleaseRows$UnitRows") (T := T_U) (N := 11) hx hb hts in_U hown hK hP 0 rfl rfl 1 (by decide) (hts _ k_55) (fun _ h9 => h9) rfl d_U_workEnd_17 ?_
    refine lv_iload_n hx hb d_U_workEnd_20 rfl (lv_at hl 1 rfl) ?_
    obtain ⟨h21, hw⟩ := hw
    refine va_iald hx hb hK hP 2 0 rfl rfl h21 d_U_workEnd_21 ?_
    refine lv_iadd hx hb d_U_workEnd_22 ?_
    exact hret ((xU.1 7 a1.toNatClampNeg) + (xU.1 1 a1.toNatClampNeg)) () _ _ _ _ _ _ rfl hw hP hD hS (Nat.le_of_ble_eq_true rfl) (Nat.le_of_ble_eq_true rfl) d_U_workEnd_23

def wp_U_checksToDo (xU : St) (a1 : Int32) (post : Int32 → Unit → Prop) : Prop := vp_in a1 24 ∧ (vp_in a1 24 ∧ (post ((xU.1 3 a1.toNatClampNeg) &&& ((xU.1 4 a1.toNatClampNeg) ^^^ (-1 : Int32))) ()))
set_option maxHeartbeats 4000000 in
set_option maxRecDepth 100000 in
theorem c_U_checksToDo (l : Launch) (dC : Nat → ClassId) (dI : Nat → Nat → Nat) (cI cZ cL : ClassId) (qU : Nat → Nat) (sz : Nat) (xU : St) (a1 : Int32) (post : Int32 → Unit → Prop) (hw : wp_U_checksToDo xU a1 post) : Met l y_U_checksToDo w_U_checksToDo ({ frames := 0, cells := 0, slots := 0, locals := 0 } : Room) (va_Pc [.ref (qU 0), .int a1] (xP (dC, dI) vwCl [(cI, .int), (cZ, .boolean), (cL, .long)] (wd_U qU cI cZ cL xU) sz)) (va_Qi post (xB (dC, dI) vwCl [(cI, .int), (cZ, .boolean), (cL, .long)] (va_A (wd_U qU cI cZ cL xU) sz) (fun _ => (wd_U qU cI cZ cL xU))) (va_A (wd_U qU cI cZ cL xU) sz)) 0 0 (va_A (wd_U qU cI cZ cL xU) sz) := by
  refine x_ofI (cc := b_U_checksToDo) (maxL := 2) (by decide) rfl (Nat.le_of_ble_eq_true rfl) (fun p e s m below meth c A Q hx hb hml hts hown hK hA hP hD hS hret ls hl => ?_)
  have hl : lv_has ls 2 [(0, .ref (qU 0)), (1, .int a1)] := hl
  unfold wp_U_checksToDo at hw
  refine lv_aload_n hx hb d_U_checksToDo_0 rfl (lv_at hl 0 rfl) ?_
  refine va_get (D := (dC, dI)) (ci := 1) (v := .ref (qU 4)) (C := "ReleaseRows$UnitRows") (T := T_U) (N := 11) hx hb hts in_U hown hK hP 0 rfl rfl 3 (by decide) (hts _ k_57) (fun _ h9 => h9) rfl d_U_checksToDo_1 ?_
  refine lv_iload_n hx hb d_U_checksToDo_4 rfl (lv_at hl 1 rfl) ?_
  obtain ⟨h5, hw⟩ := hw
  refine va_iald hx hb hK hP 4 0 rfl rfl h5 d_U_checksToDo_5 ?_
  refine lv_aload_n hx hb d_U_checksToDo_6 rfl (lv_at hl 0 rfl) ?_
  refine va_get (D := (dC, dI)) (ci := 1) (v := .ref (qU 5)) (C := "ReleaseRows$UnitRows") (T := T_U) (N := 11) hx hb hts in_U hown hK hP 0 rfl rfl 4 (by decide) (hts _ k_58) (fun _ h9 => h9) rfl d_U_checksToDo_7 ?_
  refine lv_iload_n hx hb d_U_checksToDo_10 rfl (lv_at hl 1 rfl) ?_
  obtain ⟨h11, hw⟩ := hw
  refine va_iald hx hb hK hP 5 0 rfl rfl h11 d_U_checksToDo_11 ?_
  refine lv_iconst (v := (-1 : Int32)) hx hb d_U_checksToDo_12 (by decide) ?_
  refine lv_ixor hx hb d_U_checksToDo_13 ?_
  refine lv_iand hx hb d_U_checksToDo_14 ?_
  exact hret ((xU.1 3 a1.toNatClampNeg) &&& ((xU.1 4 a1.toNatClampNeg) ^^^ (-1 : Int32))) () _ _ _ _ _ _ rfl hw hP hD hS (Nat.le_of_ble_eq_true rfl) (Nat.le_of_ble_eq_true rfl) d_U_checksToDo_15

def wj_U_nearestReady_43 (xU : St) (post : Int32 → Unit → Prop) (rec4 : Int32 → Int32 → Prop) (v1_ : Int32) (v2_ : Int32) : Prop := ∀ v2_43 : Int32, v2_43 = v2_ + 1 → (rec4 v1_ v2_43)
def wj_U_nearestReady_41 (xU : St) (post : Int32 → Unit → Prop) (rec4 : Int32 → Int32 → Prop) (v2_ : Int32) : Prop := wj_U_nearestReady_43 xU post rec4 v2_ v2_
def wl_U_nearestReady_4 (xU : St) (post : Int32 → Unit → Prop) : Nat → Int32 → Int32 → Prop
  | 0 => fun _ _ => False
  | n9 + 1 => fun v1_ v2_ => ((xU.2 10) ≤ v2_ → (post v1_ ())) ∧ (¬ (xU.2 10) ≤ v2_ → (vp_in v2_ 24 ∧ ((¬ (xU.1 5 v2_.toNatClampNeg) = 0 → (wj_U_nearestReady_43 xU post (wl_U_nearestReady_4 xU post n9) v1_ v2_)) ∧ ((xU.1 5 v2_.toNatClampNeg) = 0 → ((v1_ = (-1 : Int32) → (wj_U_nearestReady_41 xU post (wl_U_nearestReady_4 xU post n9) v2_)) ∧ (¬ v1_ = (-1 : Int32) → (vp_in v2_ 24 ∧ (vp_in v1_ 24 ∧ (((xU.1 0 v1_.toNatClampNeg) ≤ (xU.1 0 v2_.toNatClampNeg) → (wj_U_nearestReady_43 xU post (wl_U_nearestReady_4 xU post n9) v1_ v2_)) ∧ (¬ (xU.1 0 v1_.toNatClampNeg) ≤ (xU.1 0 v2_.toNatClampNeg) → (wj_U_nearestReady_41 xU post (wl_U_nearestReady_4 xU post n9) v2_)))))))))))
def wp_U_nearestReady (xU : St) (post : Int32 → Unit → Prop) : Prop := ∃ k9 : Nat, wl_U_nearestReady_4 xU post k9 (-1 : Int32) (0 : Int32)
set_option maxHeartbeats 4000000 in
set_option maxRecDepth 100000 in
theorem c_U_nearestReady (l : Launch) (dC : Nat → ClassId) (dI : Nat → Nat → Nat) (cI cZ cL : ClassId) (qU : Nat → Nat) (sz : Nat) (xU : St) (post : Int32 → Unit → Prop) (hw : wp_U_nearestReady xU post) : Met l y_U_nearestReady w_U_nearestReady ({ frames := 0, cells := 0, slots := 0, locals := 0 } : Room) (va_Pc [.ref (qU 0)] (xP (dC, dI) vwCl [(cI, .int), (cZ, .boolean), (cL, .long)] (wd_U qU cI cZ cL xU) sz)) (va_Qi post (xB (dC, dI) vwCl [(cI, .int), (cZ, .boolean), (cL, .long)] (va_A (wd_U qU cI cZ cL xU) sz) (fun _ => (wd_U qU cI cZ cL xU))) (va_A (wd_U qU cI cZ cL xU) sz)) 0 0 (va_A (wd_U qU cI cZ cL xU) sz) := by
  refine x_ofI (cc := b_U_nearestReady) (maxL := 3) (by decide) rfl (Nat.le_of_ble_eq_true rfl) (fun p e s m below meth c A Q hx hb hml hts hown hK hA hP hD hS hret ls hl => ?_)
  have hl : lv_has ls 3 [(0, .ref (qU 0))] := hl
  have lp4 : ∀ (n4 : Nat) (v1_ : Int32) (v2_ : Int32) (H : Heap) (locs : List Loc) (ls : Array Slot), wl_U_nearestReady_4 xU post n4 v1_ v2_ → va_P (dC, dI) vwCl (wd_U qU cI cZ cL xU) H → va_D A (wd_U qU cI cZ cL xU) → va_S A s.heap H locs → lv_has ls 3 [(0, .ref (qU 0)), (1, .int v1_), (2, .int v2_)] → W p l e (headSpec w_U_nearestReady ({ frames := 0, cells := 0, slots := 0, locals := 0 } : Room)).room s m ([.ref (qU 0)] : List Value).toArray below meth c H locs 0 0 Q (F0 m 4 ls []) := by
    intro n4
    induction n4 with
    | zero => intro v1_ v2_ H locs ls hw; exact hw.elim
    | succ n4 ih4 =>
      have jn43 : ∀ (v1_ : Int32) (v2_ : Int32) (H : Heap) (locs : List Loc) (ls : Array Slot), wj_U_nearestReady_43 xU post (wl_U_nearestReady_4 xU post n4) v1_ v2_ → va_P (dC, dI) vwCl (wd_U qU cI cZ cL xU) H → va_D A (wd_U qU cI cZ cL xU) → va_S A s.heap H locs → lv_has ls 3 [(0, .ref (qU 0)), (1, .int v1_), (2, .int v2_)] → W p l e (headSpec w_U_nearestReady ({ frames := 0, cells := 0, slots := 0, locals := 0 } : Room)).room s m ([.ref (qU 0)] : List Value).toArray below meth c H locs 0 0 Q (F0 m 43 ls []) := by
        intro v1_ v2_ H locs ls hw hP hD hS hl
        unfold wj_U_nearestReady_43 at hw
        obtain ⟨v2_43, ev2_43⟩ : ∃ y : Int32, y = v2_ + 1 := ⟨_, rfl⟩
        have hw := hw v2_43 ev2_43
        refine lv_iinc (v := v2_43) (lv' := [(2, .int v2_43), (0, .ref (qU 0)), (1, .int v1_)]) hx hb d_U_nearestReady_43 hl (k := 2) rfl (by rw [ev2_43]; rfl) (by decide) rfl (fun ls hl => ?_)
        refine lv_goto (tgt := 4) hx hb d_U_nearestReady_46 (by decide) ?_
        exact ih4 v1_ v2_43 _ _ _ hw hP hD hS (lv_sub hl [1, 2, 0] rfl)
      have jn41 : ∀ (v2_ : Int32) (H : Heap) (locs : List Loc) (ls : Array Slot), wj_U_nearestReady_41 xU post (wl_U_nearestReady_4 xU post n4) v2_ → va_P (dC, dI) vwCl (wd_U qU cI cZ cL xU) H → va_D A (wd_U qU cI cZ cL xU) → va_S A s.heap H locs → lv_has ls 3 [(0, .ref (qU 0)), (2, .int v2_)] → W p l e (headSpec w_U_nearestReady ({ frames := 0, cells := 0, slots := 0, locals := 0 } : Room)).room s m ([.ref (qU 0)] : List Value).toArray below meth c H locs 0 0 Q (F0 m 41 ls []) := by
        intro v2_ H locs ls hw hP hD hS hl
        unfold wj_U_nearestReady_41 at hw
        refine lv_iload_n hx hb d_U_nearestReady_41 rfl (lv_at hl 1 rfl) ?_
        refine lv_istore_n (lv' := [(1, .int v2_), (0, .ref (qU 0)), (2, .int v2_)]) hx hb d_U_nearestReady_42 rfl hl (by decide) rfl (fun ls hl => ?_)
        exact jn43 v2_ v2_ _ _ _ hw hP hD hS (lv_sub hl [1, 0, 2] rfl)
      intro v1_ v2_ H locs ls hw hP hD hS hl
      unfold wl_U_nearestReady_4 at hw
      refine lv_iload_n hx hb d_U_nearestReady_4 rfl (lv_at hl 2 rfl) ?_
      refine lv_aload_n hx hb d_U_nearestReady_5 rfl (lv_at hl 0 rfl) ?_
      refine va_get (D := (dC, dI)) (ci := 1) (v := .int (xU.2 10)) (C := "ReleaseRows$UnitRows") (T := T_U) (N := 11) hx hb hts in_U hown hK hP 0 rfl rfl 10 (by decide) (hts _ k_70) (fun _ h9 => h9) rfl d_U_nearestReady_6 ?_
      refine lv_icmp_ge (tgt := 49) hx hb d_U_nearestReady_9 (by decide) (fun c9 => ?_) (fun c9 => ?_)
      · have hw := hw.1 c9
        refine lv_iload_n hx hb d_U_nearestReady_49 rfl (lv_at hl 1 rfl) ?_
        exact hret v1_ () _ _ _ _ _ _ rfl hw hP hD hS (Nat.le_of_ble_eq_true rfl) (Nat.le_of_ble_eq_true rfl) d_U_nearestReady_50
      · have hw := hw.2 c9
        refine lv_aload_n hx hb d_U_nearestReady_12 rfl (lv_at hl 0 rfl) ?_
        refine va_get (D := (dC, dI)) (ci := 1) (v := .ref (qU 6)) (C := "ReleaseRows$UnitRows") (T := T_U) (N := 11) hx hb hts in_U hown hK hP 0 rfl rfl 5 (by decide) (hts _ k_60) (fun _ h9 => h9) rfl d_U_nearestReady_13 ?_
        refine lv_iload_n hx hb d_U_nearestReady_16 rfl (lv_at hl 2 rfl) ?_
        obtain ⟨h17, hw⟩ := hw
        refine va_iald hx hb hK hP 6 0 rfl rfl h17 d_U_nearestReady_17 ?_
        refine lv_if_ne (tgt := 43) hx hb d_U_nearestReady_18 (by decide) (fun c18 => ?_) (fun c18 => ?_)
        · have hw := hw.1 c18
          exact jn43 v1_ v2_ _ _ _ hw hP hD hS hl
        · have hw := hw.2 c18
          refine lv_iload_n hx hb d_U_nearestReady_21 rfl (lv_at hl 1 rfl) ?_
          refine lv_iconst (v := (-1 : Int32)) hx hb d_U_nearestReady_22 (by decide) ?_
          refine lv_icmp_eq (tgt := 41) hx hb d_U_nearestReady_23 (by decide) (fun c23 => ?_) (fun c23 => ?_)
          · have hw := hw.1 c23
            exact jn41 v2_ _ _ _ hw hP hD hS (lv_sub hl [0, 2] rfl)
          · have hw := hw.2 c23
            refine lv_aload_n hx hb d_U_nearestReady_26 rfl (lv_at hl 0 rfl) ?_
            refine va_get (D := (dC, dI)) (ci := 1) (v := .ref (qU 1)) (C := "ReleaseRows$UnitRows") (T := T_U) (N := 11) hx hb hts in_U hown hK hP 0 rfl rfl 0 (by decide) (hts _ k_53) (fun _ h9 => h9) rfl d_U_nearestReady_27 ?_
            refine lv_iload_n hx hb d_U_nearestReady_30 rfl (lv_at hl 2 rfl) ?_
            obtain ⟨h31, hw⟩ := hw
            refine va_iald hx hb hK hP 1 0 rfl rfl h31 d_U_nearestReady_31 ?_
            refine lv_aload_n hx hb d_U_nearestReady_32 rfl (lv_at hl 0 rfl) ?_
            refine va_get (D := (dC, dI)) (ci := 1) (v := .ref (qU 1)) (C := "ReleaseRows$UnitRows") (T := T_U) (N := 11) hx hb hts in_U hown hK hP 0 rfl rfl 0 (by decide) (hts _ k_53) (fun _ h9 => h9) rfl d_U_nearestReady_33 ?_
            refine lv_iload_n hx hb d_U_nearestReady_36 rfl (lv_at hl 1 rfl) ?_
            obtain ⟨h37, hw⟩ := hw
            refine va_iald hx hb hK hP 1 0 rfl rfl h37 d_U_nearestReady_37 ?_
            refine lv_icmp_ge (tgt := 43) hx hb d_U_nearestReady_38 (by decide) (fun c38 => ?_) (fun c38 => ?_)
            · have hw := hw.1 c38
              exact jn43 v1_ v2_ _ _ _ hw hP hD hS hl
            · have hw := hw.2 c38
              exact jn41 v2_ _ _ _ hw hP hD hS (lv_sub hl [0, 2] rfl)
  unfold wp_U_nearestReady at hw
  refine lv_iconst (v := (-1 : Int32)) hx hb d_U_nearestReady_0 (by decide) ?_
  refine lv_istore_n (lv' := [(1, .int (-1 : Int32)), (0, .ref (qU 0))]) hx hb d_U_nearestReady_1 rfl hl (by decide) rfl (fun ls hl => ?_)
  refine lv_iconst (v := (0 : Int32)) hx hb d_U_nearestReady_2 (by decide) ?_
  refine lv_istore_n (lv' := [(2, .int (0 : Int32)), (1, .int (-1 : Int32)), (0, .ref (qU 0))]) hx hb d_U_nearestReady_3 rfl hl (by decide) rfl (fun ls hl => ?_)
  obtain ⟨n9, hw⟩ := hw
  exact lp4 n9 (-1 : Int32) (0 : Int32) _ _ _ hw hP hD hS (lv_sub hl [2, 1, 0] rfl)

def wj_U_farthestAt_44 (xU : St) (a1 : Int32) (post : Int32 → Unit → Prop) (rec4 : Int32 → Int32 → Prop) (v2_ : Int32) (v3_ : Int32) : Prop := ∀ v3_44 : Int32, v3_44 = v3_ + 1 → (rec4 v2_ v3_44)
def wj_U_farthestAt_42 (xU : St) (a1 : Int32) (post : Int32 → Unit → Prop) (rec4 : Int32 → Int32 → Prop) (v3_ : Int32) : Prop := wj_U_farthestAt_44 xU a1 post rec4 v3_ v3_
def wl_U_farthestAt_4 (xU : St) (a1 : Int32) (post : Int32 → Unit → Prop) : Nat → Int32 → Int32 → Prop
  | 0 => fun _ _ => False
  | n9 + 1 => fun v2_ v3_ => ((xU.2 10) ≤ v3_ → (post v2_ ())) ∧ (¬ (xU.2 10) ≤ v3_ → (vp_in v3_ 24 ∧ ((¬ (xU.1 6 v3_.toNatClampNeg) = a1 → (wj_U_farthestAt_44 xU a1 post (wl_U_farthestAt_4 xU a1 post n9) v2_ v3_)) ∧ ((xU.1 6 v3_.toNatClampNeg) = a1 → ((v2_ = (-1 : Int32) → (wj_U_farthestAt_42 xU a1 post (wl_U_farthestAt_4 xU a1 post n9) v3_)) ∧ (¬ v2_ = (-1 : Int32) → (vp_in v3_ 24 ∧ (vp_in v2_ 24 ∧ (((xU.1 0 v3_.toNatClampNeg) ≤ (xU.1 0 v2_.toNatClampNeg) → (wj_U_farthestAt_44 xU a1 post (wl_U_farthestAt_4 xU a1 post n9) v2_ v3_)) ∧ (¬ (xU.1 0 v3_.toNatClampNeg) ≤ (xU.1 0 v2_.toNatClampNeg) → (wj_U_farthestAt_42 xU a1 post (wl_U_farthestAt_4 xU a1 post n9) v3_)))))))))))
def wp_U_farthestAt (xU : St) (a1 : Int32) (post : Int32 → Unit → Prop) : Prop := ∃ k9 : Nat, wl_U_farthestAt_4 xU a1 post k9 (-1 : Int32) (0 : Int32)
set_option maxHeartbeats 4000000 in
set_option maxRecDepth 100000 in
theorem c_U_farthestAt (l : Launch) (dC : Nat → ClassId) (dI : Nat → Nat → Nat) (cI cZ cL : ClassId) (qU : Nat → Nat) (sz : Nat) (xU : St) (a1 : Int32) (post : Int32 → Unit → Prop) (hw : wp_U_farthestAt xU a1 post) : Met l y_U_farthestAt w_U_farthestAt ({ frames := 0, cells := 0, slots := 0, locals := 0 } : Room) (va_Pc [.ref (qU 0), .int a1] (xP (dC, dI) vwCl [(cI, .int), (cZ, .boolean), (cL, .long)] (wd_U qU cI cZ cL xU) sz)) (va_Qi post (xB (dC, dI) vwCl [(cI, .int), (cZ, .boolean), (cL, .long)] (va_A (wd_U qU cI cZ cL xU) sz) (fun _ => (wd_U qU cI cZ cL xU))) (va_A (wd_U qU cI cZ cL xU) sz)) 0 0 (va_A (wd_U qU cI cZ cL xU) sz) := by
  refine x_ofI (cc := b_U_farthestAt) (maxL := 4) (by decide) rfl (Nat.le_of_ble_eq_true rfl) (fun p e s m below meth c A Q hx hb hml hts hown hK hA hP hD hS hret ls hl => ?_)
  have hl : lv_has ls 4 [(0, .ref (qU 0)), (1, .int a1)] := hl
  have lp4 : ∀ (n4 : Nat) (v2_ : Int32) (v3_ : Int32) (H : Heap) (locs : List Loc) (ls : Array Slot), wl_U_farthestAt_4 xU a1 post n4 v2_ v3_ → va_P (dC, dI) vwCl (wd_U qU cI cZ cL xU) H → va_D A (wd_U qU cI cZ cL xU) → va_S A s.heap H locs → lv_has ls 4 [(0, .ref (qU 0)), (1, .int a1), (2, .int v2_), (3, .int v3_)] → W p l e (headSpec w_U_farthestAt ({ frames := 0, cells := 0, slots := 0, locals := 0 } : Room)).room s m ([.ref (qU 0), .int a1] : List Value).toArray below meth c H locs 0 0 Q (F0 m 4 ls []) := by
    intro n4
    induction n4 with
    | zero => intro v2_ v3_ H locs ls hw; exact hw.elim
    | succ n4 ih4 =>
      have jn44 : ∀ (v2_ : Int32) (v3_ : Int32) (H : Heap) (locs : List Loc) (ls : Array Slot), wj_U_farthestAt_44 xU a1 post (wl_U_farthestAt_4 xU a1 post n4) v2_ v3_ → va_P (dC, dI) vwCl (wd_U qU cI cZ cL xU) H → va_D A (wd_U qU cI cZ cL xU) → va_S A s.heap H locs → lv_has ls 4 [(0, .ref (qU 0)), (1, .int a1), (2, .int v2_), (3, .int v3_)] → W p l e (headSpec w_U_farthestAt ({ frames := 0, cells := 0, slots := 0, locals := 0 } : Room)).room s m ([.ref (qU 0), .int a1] : List Value).toArray below meth c H locs 0 0 Q (F0 m 44 ls []) := by
        intro v2_ v3_ H locs ls hw hP hD hS hl
        unfold wj_U_farthestAt_44 at hw
        obtain ⟨v3_44, ev3_44⟩ : ∃ y : Int32, y = v3_ + 1 := ⟨_, rfl⟩
        have hw := hw v3_44 ev3_44
        refine lv_iinc (v := v3_44) (lv' := [(3, .int v3_44), (0, .ref (qU 0)), (1, .int a1), (2, .int v2_)]) hx hb d_U_farthestAt_44 hl (k := 3) rfl (by rw [ev3_44]; rfl) (by decide) rfl (fun ls hl => ?_)
        refine lv_goto (tgt := 4) hx hb d_U_farthestAt_47 (by decide) ?_
        exact ih4 v2_ v3_44 _ _ _ hw hP hD hS (lv_sub hl [1, 2, 3, 0] rfl)
      have jn42 : ∀ (v3_ : Int32) (H : Heap) (locs : List Loc) (ls : Array Slot), wj_U_farthestAt_42 xU a1 post (wl_U_farthestAt_4 xU a1 post n4) v3_ → va_P (dC, dI) vwCl (wd_U qU cI cZ cL xU) H → va_D A (wd_U qU cI cZ cL xU) → va_S A s.heap H locs → lv_has ls 4 [(0, .ref (qU 0)), (1, .int a1), (3, .int v3_)] → W p l e (headSpec w_U_farthestAt ({ frames := 0, cells := 0, slots := 0, locals := 0 } : Room)).room s m ([.ref (qU 0), .int a1] : List Value).toArray below meth c H locs 0 0 Q (F0 m 42 ls []) := by
        intro v3_ H locs ls hw hP hD hS hl
        unfold wj_U_farthestAt_42 at hw
        refine lv_iload_n hx hb d_U_farthestAt_42 rfl (lv_at hl 2 rfl) ?_
        refine lv_istore_n (lv' := [(2, .int v3_), (0, .ref (qU 0)), (1, .int a1), (3, .int v3_)]) hx hb d_U_farthestAt_43 rfl hl (by decide) rfl (fun ls hl => ?_)
        exact jn44 v3_ v3_ _ _ _ hw hP hD hS (lv_sub hl [1, 2, 0, 3] rfl)
      intro v2_ v3_ H locs ls hw hP hD hS hl
      unfold wl_U_farthestAt_4 at hw
      refine lv_iload_n hx hb d_U_farthestAt_4 rfl (lv_at hl 3 rfl) ?_
      refine lv_aload_n hx hb d_U_farthestAt_5 rfl (lv_at hl 0 rfl) ?_
      refine va_get (D := (dC, dI)) (ci := 1) (v := .int (xU.2 10)) (C := "ReleaseRows$UnitRows") (T := T_U) (N := 11) hx hb hts in_U hown hK hP 0 rfl rfl 10 (by decide) (hts _ k_70) (fun _ h9 => h9) rfl d_U_farthestAt_6 ?_
      refine lv_icmp_ge (tgt := 50) hx hb d_U_farthestAt_9 (by decide) (fun c9 => ?_) (fun c9 => ?_)
      · have hw := hw.1 c9
        refine lv_iload_n hx hb d_U_farthestAt_50 rfl (lv_at hl 2 rfl) ?_
        exact hret v2_ () _ _ _ _ _ _ rfl hw hP hD hS (Nat.le_of_ble_eq_true rfl) (Nat.le_of_ble_eq_true rfl) d_U_farthestAt_51
      · have hw := hw.2 c9
        refine lv_aload_n hx hb d_U_farthestAt_12 rfl (lv_at hl 0 rfl) ?_
        refine va_get (D := (dC, dI)) (ci := 1) (v := .ref (qU 7)) (C := "ReleaseRows$UnitRows") (T := T_U) (N := 11) hx hb hts in_U hown hK hP 0 rfl rfl 6 (by decide) (hts _ k_62) (fun _ h9 => h9) rfl d_U_farthestAt_13 ?_
        refine lv_iload_n hx hb d_U_farthestAt_16 rfl (lv_at hl 3 rfl) ?_
        obtain ⟨h17, hw⟩ := hw
        refine va_iald hx hb hK hP 7 0 rfl rfl h17 d_U_farthestAt_17 ?_
        refine lv_iload_n hx hb d_U_farthestAt_18 rfl (lv_at hl 1 rfl) ?_
        refine lv_icmp_ne (tgt := 44) hx hb d_U_farthestAt_19 (by decide) (fun c19 => ?_) (fun c19 => ?_)
        · have hw := hw.1 c19
          exact jn44 v2_ v3_ _ _ _ hw hP hD hS hl
        · have hw := hw.2 c19
          refine lv_iload_n hx hb d_U_farthestAt_22 rfl (lv_at hl 2 rfl) ?_
          refine lv_iconst (v := (-1 : Int32)) hx hb d_U_farthestAt_23 (by decide) ?_
          refine lv_icmp_eq (tgt := 42) hx hb d_U_farthestAt_24 (by decide) (fun c24 => ?_) (fun c24 => ?_)
          · have hw := hw.1 c24
            exact jn42 v3_ _ _ _ hw hP hD hS (lv_sub hl [0, 1, 3] rfl)
          · have hw := hw.2 c24
            refine lv_aload_n hx hb d_U_farthestAt_27 rfl (lv_at hl 0 rfl) ?_
            refine va_get (D := (dC, dI)) (ci := 1) (v := .ref (qU 1)) (C := "ReleaseRows$UnitRows") (T := T_U) (N := 11) hx hb hts in_U hown hK hP 0 rfl rfl 0 (by decide) (hts _ k_53) (fun _ h9 => h9) rfl d_U_farthestAt_28 ?_
            refine lv_iload_n hx hb d_U_farthestAt_31 rfl (lv_at hl 3 rfl) ?_
            obtain ⟨h32, hw⟩ := hw
            refine va_iald hx hb hK hP 1 0 rfl rfl h32 d_U_farthestAt_32 ?_
            refine lv_aload_n hx hb d_U_farthestAt_33 rfl (lv_at hl 0 rfl) ?_
            refine va_get (D := (dC, dI)) (ci := 1) (v := .ref (qU 1)) (C := "ReleaseRows$UnitRows") (T := T_U) (N := 11) hx hb hts in_U hown hK hP 0 rfl rfl 0 (by decide) (hts _ k_53) (fun _ h9 => h9) rfl d_U_farthestAt_34 ?_
            refine lv_iload_n hx hb d_U_farthestAt_37 rfl (lv_at hl 2 rfl) ?_
            obtain ⟨h38, hw⟩ := hw
            refine va_iald hx hb hK hP 1 0 rfl rfl h38 d_U_farthestAt_38 ?_
            refine lv_icmp_le (tgt := 44) hx hb d_U_farthestAt_39 (by decide) (fun c39 => ?_) (fun c39 => ?_)
            · have hw := hw.1 c39
              exact jn44 v2_ v3_ _ _ _ hw hP hD hS hl
            · have hw := hw.2 c39
              exact jn42 v3_ _ _ _ hw hP hD hS (lv_sub hl [0, 1, 3] rfl)
  unfold wp_U_farthestAt at hw
  refine lv_iconst (v := (-1 : Int32)) hx hb d_U_farthestAt_0 (by decide) ?_
  refine lv_istore_n (lv' := [(2, .int (-1 : Int32)), (0, .ref (qU 0)), (1, .int a1)]) hx hb d_U_farthestAt_1 rfl hl (by decide) rfl (fun ls hl => ?_)
  refine lv_iconst (v := (0 : Int32)) hx hb d_U_farthestAt_2 (by decide) ?_
  refine lv_istore_n (lv' := [(3, .int (0 : Int32)), (2, .int (-1 : Int32)), (0, .ref (qU 0)), (1, .int a1)]) hx hb d_U_farthestAt_3 rfl hl (by decide) rfl (fun ls hl => ?_)
  obtain ⟨n9, hw⟩ := hw
  exact lp4 n9 (-1 : Int32) (0 : Int32) _ _ _ hw hP hD hS (lv_sub hl [2, 3, 1, 0] rfl)

def wj_U_countAt_25 (xU : St) (a1 : Int32) (post : Int32 → Unit → Prop) (rec4 : Int32 → Int32 → Prop) (v2_ : Int32) (v3_ : Int32) : Prop := ∀ v3_25 : Int32, v3_25 = v3_ + 1 → (rec4 v2_ v3_25)
def wl_U_countAt_4 (xU : St) (a1 : Int32) (post : Int32 → Unit → Prop) : Nat → Int32 → Int32 → Prop
  | 0 => fun _ _ => False
  | n9 + 1 => fun v2_ v3_ => ((xU.2 10) ≤ v3_ → (post v2_ ())) ∧ (¬ (xU.2 10) ≤ v3_ → (vp_in v3_ 24 ∧ ((¬ (xU.1 6 v3_.toNatClampNeg) = a1 → (wj_U_countAt_25 xU a1 post (wl_U_countAt_4 xU a1 post n9) v2_ v3_)) ∧ ((xU.1 6 v3_.toNatClampNeg) = a1 → (∀ v2_22 : Int32, v2_22 = v2_ + 1 → (wj_U_countAt_25 xU a1 post (wl_U_countAt_4 xU a1 post n9) v2_22 v3_))))))
def wp_U_countAt (xU : St) (a1 : Int32) (post : Int32 → Unit → Prop) : Prop := ∃ k9 : Nat, wl_U_countAt_4 xU a1 post k9 (0 : Int32) (0 : Int32)
set_option maxHeartbeats 4000000 in
set_option maxRecDepth 100000 in
theorem c_U_countAt (l : Launch) (dC : Nat → ClassId) (dI : Nat → Nat → Nat) (cI cZ cL : ClassId) (qU : Nat → Nat) (sz : Nat) (xU : St) (a1 : Int32) (post : Int32 → Unit → Prop) (hw : wp_U_countAt xU a1 post) : Met l y_U_countAt w_U_countAt ({ frames := 0, cells := 0, slots := 0, locals := 0 } : Room) (va_Pc [.ref (qU 0), .int a1] (xP (dC, dI) vwCl [(cI, .int), (cZ, .boolean), (cL, .long)] (wd_U qU cI cZ cL xU) sz)) (va_Qi post (xB (dC, dI) vwCl [(cI, .int), (cZ, .boolean), (cL, .long)] (va_A (wd_U qU cI cZ cL xU) sz) (fun _ => (wd_U qU cI cZ cL xU))) (va_A (wd_U qU cI cZ cL xU) sz)) 0 0 (va_A (wd_U qU cI cZ cL xU) sz) := by
  refine x_ofI (cc := b_U_countAt) (maxL := 4) (by decide) rfl (Nat.le_of_ble_eq_true rfl) (fun p e s m below meth c A Q hx hb hml hts hown hK hA hP hD hS hret ls hl => ?_)
  have hl : lv_has ls 4 [(0, .ref (qU 0)), (1, .int a1)] := hl
  have lp4 : ∀ (n4 : Nat) (v2_ : Int32) (v3_ : Int32) (H : Heap) (locs : List Loc) (ls : Array Slot), wl_U_countAt_4 xU a1 post n4 v2_ v3_ → va_P (dC, dI) vwCl (wd_U qU cI cZ cL xU) H → va_D A (wd_U qU cI cZ cL xU) → va_S A s.heap H locs → lv_has ls 4 [(0, .ref (qU 0)), (1, .int a1), (2, .int v2_), (3, .int v3_)] → W p l e (headSpec w_U_countAt ({ frames := 0, cells := 0, slots := 0, locals := 0 } : Room)).room s m ([.ref (qU 0), .int a1] : List Value).toArray below meth c H locs 0 0 Q (F0 m 4 ls []) := by
    intro n4
    induction n4 with
    | zero => intro v2_ v3_ H locs ls hw; exact hw.elim
    | succ n4 ih4 =>
      have jn25 : ∀ (v2_ : Int32) (v3_ : Int32) (H : Heap) (locs : List Loc) (ls : Array Slot), wj_U_countAt_25 xU a1 post (wl_U_countAt_4 xU a1 post n4) v2_ v3_ → va_P (dC, dI) vwCl (wd_U qU cI cZ cL xU) H → va_D A (wd_U qU cI cZ cL xU) → va_S A s.heap H locs → lv_has ls 4 [(0, .ref (qU 0)), (1, .int a1), (2, .int v2_), (3, .int v3_)] → W p l e (headSpec w_U_countAt ({ frames := 0, cells := 0, slots := 0, locals := 0 } : Room)).room s m ([.ref (qU 0), .int a1] : List Value).toArray below meth c H locs 0 0 Q (F0 m 25 ls []) := by
        intro v2_ v3_ H locs ls hw hP hD hS hl
        unfold wj_U_countAt_25 at hw
        obtain ⟨v3_25, ev3_25⟩ : ∃ y : Int32, y = v3_ + 1 := ⟨_, rfl⟩
        have hw := hw v3_25 ev3_25
        refine lv_iinc (v := v3_25) (lv' := [(3, .int v3_25), (0, .ref (qU 0)), (1, .int a1), (2, .int v2_)]) hx hb d_U_countAt_25 hl (k := 3) rfl (by rw [ev3_25]; rfl) (by decide) rfl (fun ls hl => ?_)
        refine lv_goto (tgt := 4) hx hb d_U_countAt_28 (by decide) ?_
        exact ih4 v2_ v3_25 _ _ _ hw hP hD hS (lv_sub hl [1, 2, 3, 0] rfl)
      intro v2_ v3_ H locs ls hw hP hD hS hl
      unfold wl_U_countAt_4 at hw
      refine lv_iload_n hx hb d_U_countAt_4 rfl (lv_at hl 3 rfl) ?_
      refine lv_aload_n hx hb d_U_countAt_5 rfl (lv_at hl 0 rfl) ?_
      refine va_get (D := (dC, dI)) (ci := 1) (v := .int (xU.2 10)) (C := "ReleaseRows$UnitRows") (T := T_U) (N := 11) hx hb hts in_U hown hK hP 0 rfl rfl 10 (by decide) (hts _ k_70) (fun _ h9 => h9) rfl d_U_countAt_6 ?_
      refine lv_icmp_ge (tgt := 31) hx hb d_U_countAt_9 (by decide) (fun c9 => ?_) (fun c9 => ?_)
      · have hw := hw.1 c9
        refine lv_iload_n hx hb d_U_countAt_31 rfl (lv_at hl 2 rfl) ?_
        exact hret v2_ () _ _ _ _ _ _ rfl hw hP hD hS (Nat.le_of_ble_eq_true rfl) (Nat.le_of_ble_eq_true rfl) d_U_countAt_32
      · have hw := hw.2 c9
        refine lv_aload_n hx hb d_U_countAt_12 rfl (lv_at hl 0 rfl) ?_
        refine va_get (D := (dC, dI)) (ci := 1) (v := .ref (qU 7)) (C := "ReleaseRows$UnitRows") (T := T_U) (N := 11) hx hb hts in_U hown hK hP 0 rfl rfl 6 (by decide) (hts _ k_62) (fun _ h9 => h9) rfl d_U_countAt_13 ?_
        refine lv_iload_n hx hb d_U_countAt_16 rfl (lv_at hl 3 rfl) ?_
        obtain ⟨h17, hw⟩ := hw
        refine va_iald hx hb hK hP 7 0 rfl rfl h17 d_U_countAt_17 ?_
        refine lv_iload_n hx hb d_U_countAt_18 rfl (lv_at hl 1 rfl) ?_
        refine lv_icmp_ne (tgt := 25) hx hb d_U_countAt_19 (by decide) (fun c19 => ?_) (fun c19 => ?_)
        · have hw := hw.1 c19
          exact jn25 v2_ v3_ _ _ _ hw hP hD hS hl
        · have hw := hw.2 c19
          obtain ⟨v2_22, ev2_22⟩ : ∃ y : Int32, y = v2_ + 1 := ⟨_, rfl⟩
          have hw := hw v2_22 ev2_22
          refine lv_iinc (v := v2_22) (lv' := [(2, .int v2_22), (0, .ref (qU 0)), (1, .int a1), (3, .int v3_)]) hx hb d_U_countAt_22 hl (k := 2) rfl (by rw [ev2_22]; rfl) (by decide) rfl (fun ls hl => ?_)
          exact jn25 v2_22 v3_ _ _ _ hw hP hD hS (lv_sub hl [1, 2, 0, 3] rfl)
  unfold wp_U_countAt at hw
  refine lv_iconst (v := (0 : Int32)) hx hb d_U_countAt_0 (by decide) ?_
  refine lv_istore_n (lv' := [(2, .int (0 : Int32)), (0, .ref (qU 0)), (1, .int a1)]) hx hb d_U_countAt_1 rfl hl (by decide) rfl (fun ls hl => ?_)
  refine lv_iconst (v := (0 : Int32)) hx hb d_U_countAt_2 (by decide) ?_
  refine lv_istore_n (lv' := [(3, .int (0 : Int32)), (2, .int (0 : Int32)), (0, .ref (qU 0)), (1, .int a1)]) hx hb d_U_countAt_3 rfl hl (by decide) rfl (fun ls hl => ?_)
  obtain ⟨n9, hw⟩ := hw
  exact lp4 n9 (0 : Int32) (0 : Int32) _ _ _ hw hP hD hS (lv_sub hl [2, 3, 1, 0] rfl)

def wj_U_countReady_24 (xU : St) (post : Int32 → Unit → Prop) (rec4 : Int32 → Int32 → Prop) (v1_ : Int32) (v2_ : Int32) : Prop := ∀ v2_24 : Int32, v2_24 = v2_ + 1 → (rec4 v1_ v2_24)
def wl_U_countReady_4 (xU : St) (post : Int32 → Unit → Prop) : Nat → Int32 → Int32 → Prop
  | 0 => fun _ _ => False
  | n9 + 1 => fun v1_ v2_ => ((xU.2 10) ≤ v2_ → (post v1_ ())) ∧ (¬ (xU.2 10) ≤ v2_ → (vp_in v2_ 24 ∧ ((¬ (xU.1 5 v2_.toNatClampNeg) = 0 → (wj_U_countReady_24 xU post (wl_U_countReady_4 xU post n9) v1_ v2_)) ∧ ((xU.1 5 v2_.toNatClampNeg) = 0 → (∀ v1_21 : Int32, v1_21 = v1_ + 1 → (wj_U_countReady_24 xU post (wl_U_countReady_4 xU post n9) v1_21 v2_))))))
def wp_U_countReady (xU : St) (post : Int32 → Unit → Prop) : Prop := ∃ k9 : Nat, wl_U_countReady_4 xU post k9 (0 : Int32) (0 : Int32)
set_option maxHeartbeats 4000000 in
set_option maxRecDepth 100000 in
theorem c_U_countReady (l : Launch) (dC : Nat → ClassId) (dI : Nat → Nat → Nat) (cI cZ cL : ClassId) (qU : Nat → Nat) (sz : Nat) (xU : St) (post : Int32 → Unit → Prop) (hw : wp_U_countReady xU post) : Met l y_U_countReady w_U_countReady ({ frames := 0, cells := 0, slots := 0, locals := 0 } : Room) (va_Pc [.ref (qU 0)] (xP (dC, dI) vwCl [(cI, .int), (cZ, .boolean), (cL, .long)] (wd_U qU cI cZ cL xU) sz)) (va_Qi post (xB (dC, dI) vwCl [(cI, .int), (cZ, .boolean), (cL, .long)] (va_A (wd_U qU cI cZ cL xU) sz) (fun _ => (wd_U qU cI cZ cL xU))) (va_A (wd_U qU cI cZ cL xU) sz)) 0 0 (va_A (wd_U qU cI cZ cL xU) sz) := by
  refine x_ofI (cc := b_U_countReady) (maxL := 3) (by decide) rfl (Nat.le_of_ble_eq_true rfl) (fun p e s m below meth c A Q hx hb hml hts hown hK hA hP hD hS hret ls hl => ?_)
  have hl : lv_has ls 3 [(0, .ref (qU 0))] := hl
  have lp4 : ∀ (n4 : Nat) (v1_ : Int32) (v2_ : Int32) (H : Heap) (locs : List Loc) (ls : Array Slot), wl_U_countReady_4 xU post n4 v1_ v2_ → va_P (dC, dI) vwCl (wd_U qU cI cZ cL xU) H → va_D A (wd_U qU cI cZ cL xU) → va_S A s.heap H locs → lv_has ls 3 [(0, .ref (qU 0)), (1, .int v1_), (2, .int v2_)] → W p l e (headSpec w_U_countReady ({ frames := 0, cells := 0, slots := 0, locals := 0 } : Room)).room s m ([.ref (qU 0)] : List Value).toArray below meth c H locs 0 0 Q (F0 m 4 ls []) := by
    intro n4
    induction n4 with
    | zero => intro v1_ v2_ H locs ls hw; exact hw.elim
    | succ n4 ih4 =>
      have jn24 : ∀ (v1_ : Int32) (v2_ : Int32) (H : Heap) (locs : List Loc) (ls : Array Slot), wj_U_countReady_24 xU post (wl_U_countReady_4 xU post n4) v1_ v2_ → va_P (dC, dI) vwCl (wd_U qU cI cZ cL xU) H → va_D A (wd_U qU cI cZ cL xU) → va_S A s.heap H locs → lv_has ls 3 [(0, .ref (qU 0)), (1, .int v1_), (2, .int v2_)] → W p l e (headSpec w_U_countReady ({ frames := 0, cells := 0, slots := 0, locals := 0 } : Room)).room s m ([.ref (qU 0)] : List Value).toArray below meth c H locs 0 0 Q (F0 m 24 ls []) := by
        intro v1_ v2_ H locs ls hw hP hD hS hl
        unfold wj_U_countReady_24 at hw
        obtain ⟨v2_24, ev2_24⟩ : ∃ y : Int32, y = v2_ + 1 := ⟨_, rfl⟩
        have hw := hw v2_24 ev2_24
        refine lv_iinc (v := v2_24) (lv' := [(2, .int v2_24), (0, .ref (qU 0)), (1, .int v1_)]) hx hb d_U_countReady_24 hl (k := 2) rfl (by rw [ev2_24]; rfl) (by decide) rfl (fun ls hl => ?_)
        refine lv_goto (tgt := 4) hx hb d_U_countReady_27 (by decide) ?_
        exact ih4 v1_ v2_24 _ _ _ hw hP hD hS (lv_sub hl [1, 2, 0] rfl)
      intro v1_ v2_ H locs ls hw hP hD hS hl
      unfold wl_U_countReady_4 at hw
      refine lv_iload_n hx hb d_U_countReady_4 rfl (lv_at hl 2 rfl) ?_
      refine lv_aload_n hx hb d_U_countReady_5 rfl (lv_at hl 0 rfl) ?_
      refine va_get (D := (dC, dI)) (ci := 1) (v := .int (xU.2 10)) (C := "ReleaseRows$UnitRows") (T := T_U) (N := 11) hx hb hts in_U hown hK hP 0 rfl rfl 10 (by decide) (hts _ k_70) (fun _ h9 => h9) rfl d_U_countReady_6 ?_
      refine lv_icmp_ge (tgt := 30) hx hb d_U_countReady_9 (by decide) (fun c9 => ?_) (fun c9 => ?_)
      · have hw := hw.1 c9
        refine lv_iload_n hx hb d_U_countReady_30 rfl (lv_at hl 1 rfl) ?_
        exact hret v1_ () _ _ _ _ _ _ rfl hw hP hD hS (Nat.le_of_ble_eq_true rfl) (Nat.le_of_ble_eq_true rfl) d_U_countReady_31
      · have hw := hw.2 c9
        refine lv_aload_n hx hb d_U_countReady_12 rfl (lv_at hl 0 rfl) ?_
        refine va_get (D := (dC, dI)) (ci := 1) (v := .ref (qU 6)) (C := "ReleaseRows$UnitRows") (T := T_U) (N := 11) hx hb hts in_U hown hK hP 0 rfl rfl 5 (by decide) (hts _ k_60) (fun _ h9 => h9) rfl d_U_countReady_13 ?_
        refine lv_iload_n hx hb d_U_countReady_16 rfl (lv_at hl 2 rfl) ?_
        obtain ⟨h17, hw⟩ := hw
        refine va_iald hx hb hK hP 6 0 rfl rfl h17 d_U_countReady_17 ?_
        refine lv_if_ne (tgt := 24) hx hb d_U_countReady_18 (by decide) (fun c18 => ?_) (fun c18 => ?_)
        · have hw := hw.1 c18
          exact jn24 v1_ v2_ _ _ _ hw hP hD hS hl
        · have hw := hw.2 c18
          obtain ⟨v1_21, ev1_21⟩ : ∃ y : Int32, y = v1_ + 1 := ⟨_, rfl⟩
          have hw := hw v1_21 ev1_21
          refine lv_iinc (v := v1_21) (lv' := [(1, .int v1_21), (0, .ref (qU 0)), (2, .int v2_)]) hx hb d_U_countReady_21 hl (k := 1) rfl (by rw [ev1_21]; rfl) (by decide) rfl (fun ls hl => ?_)
          exact jn24 v1_21 v2_ _ _ _ hw hP hD hS (lv_sub hl [1, 0, 2] rfl)
  unfold wp_U_countReady at hw
  refine lv_iconst (v := (0 : Int32)) hx hb d_U_countReady_0 (by decide) ?_
  refine lv_istore_n (lv' := [(1, .int (0 : Int32)), (0, .ref (qU 0))]) hx hb d_U_countReady_1 rfl hl (by decide) rfl (fun ls hl => ?_)
  refine lv_iconst (v := (0 : Int32)) hx hb d_U_countReady_2 (by decide) ?_
  refine lv_istore_n (lv' := [(2, .int (0 : Int32)), (1, .int (0 : Int32)), (0, .ref (qU 0))]) hx hb d_U_countReady_3 rfl hl (by decide) rfl (fun ls hl => ?_)
  obtain ⟨n9, hw⟩ := hw
  exact lp4 n9 (0 : Int32) (0 : Int32) _ _ _ hw hP hD hS (lv_sub hl [2, 1, 0] rfl)

def wl_U_canRefill_2 (xU : St) (xf : (Nat → Int32)) (a1 : Int32) (post : Int32 → Unit → Prop) : Nat → Int32 → Prop
  | 0 => fun _ => False
  | n9 + 1 => fun v3_ => ((6 : Int32) ≤ v3_ → (post (1 : Int32) ())) ∧ (¬ (6 : Int32) ≤ v3_ → (vp_in ((a1 * (6 : Int32)) + v3_) 144 ∧ (vp_in v3_ 6 ∧ (((xU.1 9 ((a1 * (6 : Int32)) + v3_).toNatClampNeg) ≤ (xf v3_.toNatClampNeg) → (∀ v3_27 : Int32, v3_27 = v3_ + 1 → ((wl_U_canRefill_2 xU xf a1 post n9) v3_27))) ∧ (¬ (xU.1 9 ((a1 * (6 : Int32)) + v3_).toNatClampNeg) ≤ (xf v3_.toNatClampNeg) → (post (0 : Int32) ()))))))
def wp_U_canRefill (xU : St) (xf : (Nat → Int32)) (a1 : Int32) (post : Int32 → Unit → Prop) : Prop := ∃ k9 : Nat, wl_U_canRefill_2 xU xf a1 post k9 (0 : Int32)
set_option maxHeartbeats 4000000 in
set_option maxRecDepth 100000 in
theorem c_U_canRefill (l : Launch) (dC : Nat → ClassId) (dI : Nat → Nat → Nat) (cI cZ cL : ClassId) (qU : Nat → Nat) (qf : Nat) (sz : Nat) (xU : St) (xf : (Nat → Int32)) (a1 : Int32) (post : Int32 → Unit → Prop) (hw : wp_U_canRefill xU xf a1 post) : Met l y_U_canRefill w_U_canRefill ({ frames := 0, cells := 0, slots := 0, locals := 0 } : Room) (va_Pc [.ref (qU 0), .int a1, .ref qf] (xP (dC, dI) vwCl [(cI, .int), (cZ, .boolean), (cL, .long)] (wd_Uf qU qf cI cZ cL xU xf) sz)) (va_Qi post (xB (dC, dI) vwCl [(cI, .int), (cZ, .boolean), (cL, .long)] (va_A (wd_Uf qU qf cI cZ cL xU xf) sz) (fun _ => (wd_Uf qU qf cI cZ cL xU xf))) (va_A (wd_Uf qU qf cI cZ cL xU xf) sz)) 0 0 (va_A (wd_Uf qU qf cI cZ cL xU xf) sz) := by
  refine x_ofI (cc := b_U_canRefill) (maxL := 4) (by decide) rfl (Nat.le_of_ble_eq_true rfl) (fun p e s m below meth c A Q hx hb hml hts hown hK hA hP hD hS hret ls hl => ?_)
  have hl : lv_has ls 4 [(0, .ref (qU 0)), (1, .int a1), (2, .ref qf)] := hl
  have lp2 : ∀ (n2 : Nat) (v3_ : Int32) (H : Heap) (locs : List Loc) (ls : Array Slot), wl_U_canRefill_2 xU xf a1 post n2 v3_ → va_P (dC, dI) vwCl (wd_Uf qU qf cI cZ cL xU xf) H → va_D A (wd_Uf qU qf cI cZ cL xU xf) → va_S A s.heap H locs → lv_has ls 4 [(0, .ref (qU 0)), (1, .int a1), (2, .ref qf), (3, .int v3_)] → W p l e (headSpec w_U_canRefill ({ frames := 0, cells := 0, slots := 0, locals := 0 } : Room)).room s m ([.ref (qU 0), .int a1, .ref qf] : List Value).toArray below meth c H locs 0 0 Q (F0 m 2 ls []) := by
    intro n2
    induction n2 with
    | zero => intro v3_ H locs ls hw; exact hw.elim
    | succ n2 ih2 =>
      intro v3_ H locs ls hw hP hD hS hl
      unfold wl_U_canRefill_2 at hw
      refine lv_iload_n hx hb d_U_canRefill_2 rfl (lv_at hl 3 rfl) ?_
      refine lv_bipush (v := (6 : Int32)) hx hb d_U_canRefill_3 (by decide) ?_
      refine lv_icmp_ge (tgt := 33) hx hb d_U_canRefill_5 (by decide) (fun c5 => ?_) (fun c5 => ?_)
      · have hw := hw.1 c5
        refine lv_iconst (v := (1 : Int32)) hx hb d_U_canRefill_33 (by decide) ?_
        exact hret (1 : Int32) () _ _ _ _ _ _ (by decide) hw hP hD hS (Nat.le_of_ble_eq_true rfl) (Nat.le_of_ble_eq_true rfl) d_U_canRefill_34
      · have hw := hw.2 c5
        refine lv_aload_n hx hb d_U_canRefill_8 rfl (lv_at hl 0 rfl) ?_
        refine va_get (D := (dC, dI)) (ci := 1) (v := .ref (qU 10)) (C := "ReleaseRows$UnitRows") (T := T_U) (N := 11) hx hb hts in_U hown hK hP 0 rfl rfl 9 (by decide) (hts _ k_68) (fun _ h9 => h9) rfl d_U_canRefill_9 ?_
        refine lv_iload_n hx hb d_U_canRefill_12 rfl (lv_at hl 1 rfl) ?_
        refine lv_bipush (v := (6 : Int32)) hx hb d_U_canRefill_13 (by decide) ?_
        refine lv_imul hx hb d_U_canRefill_15 ?_
        refine lv_iload_n hx hb d_U_canRefill_16 rfl (lv_at hl 3 rfl) ?_
        refine lv_iadd hx hb d_U_canRefill_17 ?_
        obtain ⟨h18, hw⟩ := hw
        refine va_iald hx hb hK hP 10 0 rfl rfl h18 d_U_canRefill_18 ?_
        refine lv_aload_n hx hb d_U_canRefill_19 rfl (lv_at hl 2 rfl) ?_
        refine lv_iload_n hx hb d_U_canRefill_20 rfl (lv_at hl 3 rfl) ?_
        obtain ⟨h21, hw⟩ := hw
        refine va_iald hx hb hK hP 11 0 rfl rfl h21 d_U_canRefill_21 ?_
        refine lv_icmp_le (tgt := 27) hx hb d_U_canRefill_22 (by decide) (fun c22 => ?_) (fun c22 => ?_)
        · have hw := hw.1 c22
          obtain ⟨v3_27, ev3_27⟩ : ∃ y : Int32, y = v3_ + 1 := ⟨_, rfl⟩
          have hw := hw v3_27 ev3_27
          refine lv_iinc (v := v3_27) (lv' := [(3, .int v3_27), (0, .ref (qU 0)), (1, .int a1), (2, .ref qf)]) hx hb d_U_canRefill_27 hl (k := 3) rfl (by rw [ev3_27]; rfl) (by decide) rfl (fun ls hl => ?_)
          refine lv_goto (tgt := 2) hx hb d_U_canRefill_30 (by decide) ?_
          exact ih2 v3_27 _ _ _ hw hP hD hS (lv_sub hl [1, 2, 3, 0] rfl)
        · have hw := hw.2 c22
          refine lv_iconst (v := (0 : Int32)) hx hb d_U_canRefill_25 (by decide) ?_
          exact hret (0 : Int32) () _ _ _ _ _ _ (by decide) hw hP hD hS (Nat.le_of_ble_eq_true rfl) (Nat.le_of_ble_eq_true rfl) d_U_canRefill_26
  unfold wp_U_canRefill at hw
  refine lv_iconst (v := (0 : Int32)) hx hb d_U_canRefill_0 (by decide) ?_
  refine lv_istore_n (lv' := [(3, .int (0 : Int32)), (0, .ref (qU 0)), (1, .int a1), (2, .ref qf)]) hx hb d_U_canRefill_1 rfl hl (by decide) rfl (fun ls hl => ?_)
  obtain ⟨n9, hw⟩ := hw
  exact lp2 n9 (0 : Int32) _ _ _ hw hP hD hS (lv_sub hl [1, 2, 3, 0] rfl)

def wl_U_refill_2 (xU : St) (xf : (Nat → Int32)) (a1 : Int32) (post : (St × (Nat → Int32)) → Prop) : Nat → St → (Nat → Int32) → Int32 → Prop
  | 0 => fun _ _ _ => False
  | n9 + 1 => fun xU_ xf_ v3_ => ((6 : Int32) ≤ v3_ → (post (xU_, xf_))) ∧ (¬ (6 : Int32) ≤ v3_ → (vp_in v3_ 6 ∧ (vp_in ((a1 * (6 : Int32)) + v3_) 144 ∧ (vp_in v3_ 6 ∧ (vp_in ((a1 * (6 : Int32)) + v3_) 144 ∧ (∀ v3_37 : Int32, v3_37 = v3_ + 1 → ((wl_U_refill_2 xU xf a1 post n9) (sA xU_ 9 ((a1 * (6 : Int32)) + v3_).toNatClampNeg (0 : Int32)) (upd xf_ v3_.toNatClampNeg ((xf_ v3_.toNatClampNeg) - (xU_.1 9 ((a1 * (6 : Int32)) + v3_).toNatClampNeg))) v3_37)))))))
def wp_U_refill (xU : St) (xf : (Nat → Int32)) (a1 : Int32) (post : (St × (Nat → Int32)) → Prop) : Prop := ∃ k9 : Nat, wl_U_refill_2 xU xf a1 post k9 xU xf (0 : Int32)
set_option maxHeartbeats 4000000 in
set_option maxRecDepth 100000 in
theorem c_U_refill (l : Launch) (dC : Nat → ClassId) (dI : Nat → Nat → Nat) (cI cZ cL : ClassId) (qU : Nat → Nat) (qf : Nat) (sz : Nat) (xU : St) (xf : (Nat → Int32)) (a1 : Int32) (post : (St × (Nat → Int32)) → Prop) (hw : wp_U_refill xU xf a1 post) : Met l y_U_refill w_U_refill ({ frames := 0, cells := 0, slots := 0, locals := 0 } : Room) (va_Pc [.ref (qU 0), .int a1, .ref qf] (xP (dC, dI) vwCl [(cI, .int), (cZ, .boolean), (cL, .long)] (wd_Uf qU qf cI cZ cL xU xf) sz)) (va_Qv post (xB (dC, dI) vwCl [(cI, .int), (cZ, .boolean), (cL, .long)] (va_A (wd_Uf qU qf cI cZ cL xU xf) sz) (fun u => (wd_Uf qU qf cI cZ cL u.1 u.2))) (va_A (wd_Uf qU qf cI cZ cL xU xf) sz)) 0 0 (va_A (wd_Uf qU qf cI cZ cL xU xf) sz) := by
  refine x_ofV (cc := b_U_refill) (maxL := 4) (by decide) rfl (Nat.le_of_ble_eq_true rfl) (fun p e s m below meth c A Q hx hb hml hts hown hin hK hA hP hD hS hret ls hl => ?_)
  have hl : lv_has ls 4 [(0, .ref (qU 0)), (1, .int a1), (2, .ref qf)] := hl
  have lp2 : ∀ (n2 : Nat) (xU_ : St) (xf_ : (Nat → Int32)) (v3_ : Int32) (H : Heap) (locs : List Loc) (ls : Array Slot), wl_U_refill_2 xU xf a1 post n2 xU_ xf_ v3_ → va_P (dC, dI) vwCl (wd_Uf qU qf cI cZ cL xU_ xf_) H → va_D A (wd_Uf qU qf cI cZ cL xU_ xf_) → va_S A s.heap H locs → lv_has ls 4 [(0, .ref (qU 0)), (1, .int a1), (2, .ref qf), (3, .int v3_)] → W p l e (headSpec w_U_refill ({ frames := 0, cells := 0, slots := 0, locals := 0 } : Room)).room s m ([.ref (qU 0), .int a1, .ref qf] : List Value).toArray below meth c H locs 0 0 Q (F0 m 2 ls []) := by
    intro n2
    induction n2 with
    | zero => intro xU_ xf_ v3_ H locs ls hw; exact hw.elim
    | succ n2 ih2 =>
      intro xU_ xf_ v3_ H locs ls hw hP hD hS hl
      unfold wl_U_refill_2 at hw
      refine lv_iload_n hx hb d_U_refill_2 rfl (lv_at hl 3 rfl) ?_
      refine lv_bipush (v := (6 : Int32)) hx hb d_U_refill_3 (by decide) ?_
      refine lv_icmp_ge (tgt := 43) hx hb d_U_refill_5 (by decide) (fun c5 => ?_) (fun c5 => ?_)
      · have hw := hw.1 c5
        exact hret (xU_, xf_) _ _ _ _ _ _ hw hP hD hS (Nat.le_of_ble_eq_true rfl) (Nat.le_of_ble_eq_true rfl) d_U_refill_43
      · have hw := hw.2 c5
        refine lv_aload_n hx hb d_U_refill_8 rfl (lv_at hl 2 rfl) ?_
        refine lv_iload_n hx hb d_U_refill_9 rfl (lv_at hl 3 rfl) ?_
        refine lv_dup2_11 hx hb d_U_refill_10 rfl rfl ?_
        obtain ⟨h11, hw⟩ := hw
        refine va_iald hx hb hK hP 11 0 rfl rfl h11 d_U_refill_11 ?_
        refine lv_aload_n hx hb d_U_refill_12 rfl (lv_at hl 0 rfl) ?_
        refine va_get (D := (dC, dI)) (ci := 1) (v := .ref (qU 10)) (C := "ReleaseRows$UnitRows") (T := T_U) (N := 11) hx hb hts in_U hown hK hP 0 rfl rfl 9 (by decide) (hts _ k_68) (fun _ h9 => h9) rfl d_U_refill_13 ?_
        refine lv_iload_n hx hb d_U_refill_16 rfl (lv_at hl 1 rfl) ?_
        refine lv_bipush (v := (6 : Int32)) hx hb d_U_refill_17 (by decide) ?_
        refine lv_imul hx hb d_U_refill_19 ?_
        refine lv_iload_n hx hb d_U_refill_20 rfl (lv_at hl 3 rfl) ?_
        refine lv_iadd hx hb d_U_refill_21 ?_
        obtain ⟨h22, hw⟩ := hw
        refine va_iald hx hb hK hP 10 0 rfl rfl h22 d_U_refill_22 ?_
        refine lv_isub hx hb d_U_refill_23 ?_
        obtain ⟨h24, hw⟩ := hw
        refine va_iast hx hb hK hP hD hS 11 0 rfl rfl h24 d_U_refill_24 (fun H locs hP hD hS => ?_)
        have hP : va_P (dC, dI) vwCl (wd_Uf qU qf cI cZ cL xU_ (upd xf_ v3_.toNatClampNeg ((xf_ v3_.toNatClampNeg) - (xU_.1 9 ((a1 * (6 : Int32)) + v3_).toNatClampNeg)))) H := hP
        have hD : va_D A (wd_Uf qU qf cI cZ cL xU_ (upd xf_ v3_.toNatClampNeg ((xf_ v3_.toNatClampNeg) - (xU_.1 9 ((a1 * (6 : Int32)) + v3_).toNatClampNeg)))) := hD
        refine lv_aload_n hx hb d_U_refill_25 rfl (lv_at hl 0 rfl) ?_
        refine va_get (D := (dC, dI)) (ci := 1) (v := .ref (qU 10)) (C := "ReleaseRows$UnitRows") (T := T_U) (N := 11) hx hb hts in_U hown hK hP 0 rfl rfl 9 (by decide) (hts _ k_68) (fun _ h9 => h9) rfl d_U_refill_26 ?_
        refine lv_iload_n hx hb d_U_refill_29 rfl (lv_at hl 1 rfl) ?_
        refine lv_bipush (v := (6 : Int32)) hx hb d_U_refill_30 (by decide) ?_
        refine lv_imul hx hb d_U_refill_32 ?_
        refine lv_iload_n hx hb d_U_refill_33 rfl (lv_at hl 3 rfl) ?_
        refine lv_iadd hx hb d_U_refill_34 ?_
        refine lv_iconst (v := (0 : Int32)) hx hb d_U_refill_35 (by decide) ?_
        obtain ⟨h36, hw⟩ := hw
        refine va_iast hx hb hK hP hD hS 10 0 rfl rfl h36 d_U_refill_36 (fun H locs hP hD hS => ?_)
        have hP : va_P (dC, dI) vwCl (wd_Uf qU qf cI cZ cL (sA xU_ 9 ((a1 * (6 : Int32)) + v3_).toNatClampNeg (0 : Int32)) (upd xf_ v3_.toNatClampNeg ((xf_ v3_.toNatClampNeg) - (xU_.1 9 ((a1 * (6 : Int32)) + v3_).toNatClampNeg)))) H := hP
        have hD : va_D A (wd_Uf qU qf cI cZ cL (sA xU_ 9 ((a1 * (6 : Int32)) + v3_).toNatClampNeg (0 : Int32)) (upd xf_ v3_.toNatClampNeg ((xf_ v3_.toNatClampNeg) - (xU_.1 9 ((a1 * (6 : Int32)) + v3_).toNatClampNeg)))) := hD
        obtain ⟨v3_37, ev3_37⟩ : ∃ y : Int32, y = v3_ + 1 := ⟨_, rfl⟩
        have hw := hw v3_37 ev3_37
        refine lv_iinc (v := v3_37) (lv' := [(3, .int v3_37), (0, .ref (qU 0)), (1, .int a1), (2, .ref qf)]) hx hb d_U_refill_37 hl (k := 3) rfl (by rw [ev3_37]; rfl) (by decide) rfl (fun ls hl => ?_)
        refine lv_goto (tgt := 2) hx hb d_U_refill_40 (by decide) ?_
        exact ih2 (sA xU_ 9 ((a1 * (6 : Int32)) + v3_).toNatClampNeg (0 : Int32)) (upd xf_ v3_.toNatClampNeg ((xf_ v3_.toNatClampNeg) - (xU_.1 9 ((a1 * (6 : Int32)) + v3_).toNatClampNeg))) v3_37 _ _ _ hw hP hD hS (lv_sub hl [1, 2, 3, 0] rfl)
  unfold wp_U_refill at hw
  refine lv_iconst (v := (0 : Int32)) hx hb d_U_refill_0 (by decide) ?_
  refine lv_istore_n (lv' := [(3, .int (0 : Int32)), (0, .ref (qU 0)), (1, .int a1), (2, .ref qf)]) hx hb d_U_refill_1 rfl hl (by decide) rfl (fun ls hl => ?_)
  obtain ⟨n9, hw⟩ := hw
  exact lp2 n9 xU xf (0 : Int32) _ _ _ hw hP hD hS (lv_sub hl [1, 2, 3, 0] rfl)

def wj_U_goOn_74 (xU : St) (xf : (Nat → Int32)) (a1 : Int32) (a3 : Int32) (post : (St × (Nat → Int32)) → Prop) (xU_ : St) (xf_ : (Nat → Int32)) : Prop := vp_in a1 24 ∧ ((¬ (xU_.1 5 a1.toNatClampNeg) = (5 : Int32) → (post (xU_, xf_))) ∧ ((xU_.1 5 a1.toNatClampNeg) = (5 : Int32) → (wp_U_checksToDo xU_ a1 (fun r86 _ => ((¬ r86 = 0 → (post (xU_, xf_))) ∧ (r86 = 0 → (wp_U_become xU_ a1 (0 : Int32) a3 (fun u96 => (post (u96, xf_))))))))))
def wj_U_goOn_26 (xU : St) (xf : (Nat → Int32)) (a1 : Int32) (a3 : Int32) (post : (St × (Nat → Int32)) → Prop) (xU_ : St) (xf_ : (Nat → Int32)) : Prop := vp_in a1 24 ∧ ((¬ (xU_.1 5 a1.toNatClampNeg) = (4 : Int32) → (wj_U_goOn_74 xU xf a1 a3 post xU_ xf_)) ∧ ((xU_.1 5 a1.toNatClampNeg) = (4 : Int32) → (wp_U_workEnd xU_ a1 (fun r39 _ => ((a3 < r39 → (wj_U_goOn_74 xU xf a1 a3 post xU_ xf_)) ∧ (¬ a3 < r39 → (wp_U_canRefill xU_ xf_ a1 (fun r48 _ => ((r48 = 0 → (wj_U_goOn_74 xU xf a1 a3 post xU_ xf_)) ∧ (¬ r48 = 0 → (wp_U_refill xU_ xf_ a1 (fun u57 => (vp_in a1 24 ∧ (wp_U_become (sA u57.1 4 a1.toNatClampNeg (0 : Int32)) a1 (5 : Int32) a3 (fun u71 => (wj_U_goOn_74 xU xf a1 a3 post u71 u57.2))))))))))))))))
def wp_U_goOn (xU : St) (xf : (Nat → Int32)) (a1 : Int32) (a3 : Int32) (post : (St × (Nat → Int32)) → Prop) : Prop := vp_in a1 24 ∧ ((¬ (xU.1 5 a1.toNatClampNeg) = (3 : Int32) → (wj_U_goOn_26 xU xf a1 a3 post xU xf)) ∧ ((xU.1 5 a1.toNatClampNeg) = (3 : Int32) → (wp_U_workEnd xU a1 (fun r13 _ => ((a3 < r13 → (wj_U_goOn_26 xU xf a1 a3 post xU xf)) ∧ (¬ a3 < r13 → (wp_U_become xU a1 (4 : Int32) a3 (fun u23 => (wj_U_goOn_26 xU xf a1 a3 post u23 xf)))))))))
set_option maxHeartbeats 4000000 in
set_option maxRecDepth 100000 in
theorem c_U_goOn (l : Launch) (dC : Nat → ClassId) (dI : Nat → Nat → Nat) (cI cZ cL : ClassId) (qU : Nat → Nat) (qf : Nat) (sz : Nat) (xU : St) (xf : (Nat → Int32)) (a1 : Int32) (a3 : Int32) (post : (St × (Nat → Int32)) → Prop) (hw : wp_U_goOn xU xf a1 a3 post) : Met l y_U_goOn w_U_goOn ({ frames := 1, cells := 0, slots := 0, locals := 23 } : Room) (va_Pc [.ref (qU 0), .int a1, .ref qf, .int a3] (xP (dC, dI) vwCl [(cI, .int), (cZ, .boolean), (cL, .long)] (wd_Uf qU qf cI cZ cL xU xf) sz)) (va_Qv post (xB (dC, dI) vwCl [(cI, .int), (cZ, .boolean), (cL, .long)] (va_A (wd_Uf qU qf cI cZ cL xU xf) sz) (fun u => (wd_Uf qU qf cI cZ cL u.1 u.2))) (va_A (wd_Uf qU qf cI cZ cL xU xf) sz)) 0 0 (va_A (wd_Uf qU qf cI cZ cL xU xf) sz) := by
  refine x_ofV (cc := b_U_goOn) (maxL := 4) (by decide) rfl (Nat.le_of_ble_eq_true rfl) (fun p e s m below meth c A Q hx hb hml hts hown hin hK hA hP hD hS hret ls hl => ?_)
  have hl : lv_has ls 4 [(0, .ref (qU 0)), (1, .int a1), (2, .ref qf), (3, .int a3)] := hl
  have jn74 : ∀ (xU_ : St) (xf_ : (Nat → Int32)) (H : Heap) (locs : List Loc) (ls : Array Slot), wj_U_goOn_74 xU xf a1 a3 post xU_ xf_ → va_P (dC, dI) vwCl (wd_Uf qU qf cI cZ cL xU_ xf_) H → va_D A (wd_Uf qU qf cI cZ cL xU_ xf_) → va_S A s.heap H locs → lv_has ls 4 [(0, .ref (qU 0)), (1, .int a1), (3, .int a3)] → W p l e (headSpec w_U_goOn ({ frames := 1, cells := 0, slots := 0, locals := 23 } : Room)).room s m ([.ref (qU 0), .int a1, .ref qf, .int a3] : List Value).toArray below meth c H locs 0 0 Q (F0 m 74 ls []) := by
    intro xU_ xf_ H locs ls hw hP hD hS hl
    unfold wj_U_goOn_74 at hw
    refine lv_aload_n hx hb d_U_goOn_74 rfl (lv_at hl 0 rfl) ?_
    refine va_get (D := (dC, dI)) (ci := 1) (v := .ref (qU 6)) (C := "ReleaseRows$UnitRows") (T := T_U) (N := 11) hx hb hts in_U hown hK hP 0 rfl rfl 5 (by decide) (hts _ k_60) (fun _ h9 => h9) rfl d_U_goOn_75 ?_
    refine lv_iload_n hx hb d_U_goOn_78 rfl (lv_at hl 1 rfl) ?_
    obtain ⟨h79, hw⟩ := hw
    refine va_iald hx hb hK hP 6 0 rfl rfl h79 d_U_goOn_79 ?_
    refine lv_iconst (v := (5 : Int32)) hx hb d_U_goOn_80 (by decide) ?_
    refine lv_icmp_ne (tgt := 99) hx hb d_U_goOn_81 (by decide) (fun c81 => ?_) (fun c81 => ?_)
    · have hw := hw.1 c81
      exact hret (xU_, xf_) _ _ _ _ _ _ hw hP hD hS (Nat.le_of_ble_eq_true rfl) (Nat.le_of_ble_eq_true rfl) d_U_goOn_99
    · have hw := hw.2 c81
      refine lv_aload_n hx hb d_U_goOn_84 rfl (lv_at hl 0 rfl) ?_
      refine lv_iload_n hx hb d_U_goOn_85 rfl (lv_at hl 1 rfl) ?_
      refine x_ci (w2 := fun _ => (wd_Uf qU qf cI cZ cL xU_ xf_)) [0, 1, 2, 3, 4, 5, 6, 7, 8, 9, 10] [11] [1, 2, 3, 4, 5, 6, 7, 8, 9, 10, 11, 0] (va_runV (As := [.int a1]) (rest := []) ⟨hx, hb, hml, hown, hts⟩ (c_U_checksToDo l dC dI cI cZ cL qU _ xU_ a1 _ hw) (cwV 1 hts (x_gV k_309 k_310 k_311 k_27 k_312) rfl rfl rfl (by decide +kernel) ⟨Nat.le_of_ble_eq_true rfl, Nat.le_of_ble_eq_true rfl⟩) ⟨x_blind, va_recv hK hP (ci := 1) (q0 := 0) rfl rfl, fun U hU hW => x_pre (isC := [0, 1, 2, 3, 4, 5, 6, 7, 8, 9, 10]) hK hP hD rfl rfl hU hW⟩ rfl rfl hl.1 rfl (lv_room (Nat.le_of_ble_eq_true rfl)) d_U_goOn_86 ⟨Nat.le_of_ble_eq_true rfl, Nat.le_of_ble_eq_true rfl⟩) hP hD hS hA rfl rfl rfl (by decide) (fun _ => rfl) rfl (fun r86 _ H locs hw hP hD hS => ?_)
      refine lv_if_ne (tgt := 99) hx hb d_U_goOn_89 (by decide) (fun c89 => ?_) (fun c89 => ?_)
      · have hw := hw.1 c89
        exact hret (xU_, xf_) _ _ _ _ _ _ hw hP hD hS (Nat.le_of_ble_eq_true rfl) (Nat.le_of_ble_eq_true rfl) d_U_goOn_99
      · have hw := hw.2 c89
        refine lv_aload_n hx hb d_U_goOn_92 rfl (lv_at hl 0 rfl) ?_
        refine lv_iload_n hx hb d_U_goOn_93 rfl (lv_at hl 1 rfl) ?_
        refine lv_iconst (v := (0 : Int32)) hx hb d_U_goOn_94 (by decide) ?_
        refine lv_iload_n hx hb d_U_goOn_95 rfl (lv_at hl 2 rfl) ?_
        refine x_cv (w2 := fun u96 => (wd_Uf qU qf cI cZ cL u96 xf_)) [0, 1, 2, 3, 4, 5, 6, 7, 8, 9, 10] [11] [1, 2, 3, 4, 5, 6, 7, 8, 9, 10, 11, 0] (va_runV (As := [.int a1, .int (0 : Int32), .int a3]) (rest := []) ⟨hx, hb, hml, hown, hts⟩ (c_U_become l dC dI cI cZ cL qU _ xU_ a1 (0 : Int32) a3 _ hw) (cwV 3 hts (x_gV k_281 k_282 k_283 k_27 k_284) rfl rfl rfl (by decide +kernel) ⟨Nat.le_of_ble_eq_true rfl, Nat.le_of_ble_eq_true rfl⟩) ⟨x_blind, va_recv hK hP (ci := 1) (q0 := 0) rfl rfl, fun U hU hW => x_pre (isC := [0, 1, 2, 3, 4, 5, 6, 7, 8, 9, 10]) hK hP hD rfl rfl hU hW⟩ rfl rfl hl.1 rfl (lv_room (Nat.le_of_ble_eq_true rfl)) d_U_goOn_96 ⟨Nat.le_of_ble_eq_true rfl, Nat.le_of_ble_eq_true rfl⟩) hP hD hS hA rfl rfl rfl (by decide) (fun _ => rfl) rfl (fun u96 H locs hw hP hD hS => ?_)
        exact hret (u96, xf_) _ _ _ _ _ _ hw hP hD hS (Nat.le_of_ble_eq_true rfl) (Nat.le_of_ble_eq_true rfl) d_U_goOn_99
  have jn26 : ∀ (xU_ : St) (xf_ : (Nat → Int32)) (H : Heap) (locs : List Loc) (ls : Array Slot), wj_U_goOn_26 xU xf a1 a3 post xU_ xf_ → va_P (dC, dI) vwCl (wd_Uf qU qf cI cZ cL xU_ xf_) H → va_D A (wd_Uf qU qf cI cZ cL xU_ xf_) → va_S A s.heap H locs → lv_has ls 4 [(0, .ref (qU 0)), (1, .int a1), (2, .ref qf), (3, .int a3)] → W p l e (headSpec w_U_goOn ({ frames := 1, cells := 0, slots := 0, locals := 23 } : Room)).room s m ([.ref (qU 0), .int a1, .ref qf, .int a3] : List Value).toArray below meth c H locs 0 0 Q (F0 m 26 ls []) := by
    intro xU_ xf_ H locs ls hw hP hD hS hl
    unfold wj_U_goOn_26 at hw
    refine lv_aload_n hx hb d_U_goOn_26 rfl (lv_at hl 0 rfl) ?_
    refine va_get (D := (dC, dI)) (ci := 1) (v := .ref (qU 6)) (C := "ReleaseRows$UnitRows") (T := T_U) (N := 11) hx hb hts in_U hown hK hP 0 rfl rfl 5 (by decide) (hts _ k_60) (fun _ h9 => h9) rfl d_U_goOn_27 ?_
    refine lv_iload_n hx hb d_U_goOn_30 rfl (lv_at hl 1 rfl) ?_
    obtain ⟨h31, hw⟩ := hw
    refine va_iald hx hb hK hP 6 0 rfl rfl h31 d_U_goOn_31 ?_
    refine lv_iconst (v := (4 : Int32)) hx hb d_U_goOn_32 (by decide) ?_
    refine lv_icmp_ne (tgt := 74) hx hb d_U_goOn_33 (by decide) (fun c33 => ?_) (fun c33 => ?_)
    · have hw := hw.1 c33
      exact jn74 xU_ xf_ _ _ _ hw hP hD hS (lv_sub hl [0, 1, 3] rfl)
    · have hw := hw.2 c33
      refine lv_iload_n hx hb d_U_goOn_36 rfl (lv_at hl 3 rfl) ?_
      refine lv_aload_n hx hb d_U_goOn_37 rfl (lv_at hl 0 rfl) ?_
      refine lv_iload_n hx hb d_U_goOn_38 rfl (lv_at hl 1 rfl) ?_
      refine x_ci (w2 := fun _ => (wd_Uf qU qf cI cZ cL xU_ xf_)) [0, 1, 2, 3, 4, 5, 6, 7, 8, 9, 10] [11] [1, 2, 3, 4, 5, 6, 7, 8, 9, 10, 11, 0] (va_runV (As := [.int a1]) (rest := [.int a3]) ⟨hx, hb, hml, hown, hts⟩ (c_U_workEnd l dC dI cI cZ cL qU _ xU_ a1 _ hw) (cwV 1 hts (x_gV k_297 k_298 k_299 k_27 k_300) rfl rfl rfl (by decide +kernel) ⟨Nat.le_of_ble_eq_true rfl, Nat.le_of_ble_eq_true rfl⟩) ⟨x_blind, va_recv hK hP (ci := 1) (q0 := 0) rfl rfl, fun U hU hW => x_pre (isC := [0, 1, 2, 3, 4, 5, 6, 7, 8, 9, 10]) hK hP hD rfl rfl hU hW⟩ rfl rfl hl.1 rfl (lv_room (Nat.le_of_ble_eq_true rfl)) d_U_goOn_39 ⟨Nat.le_of_ble_eq_true rfl, Nat.le_of_ble_eq_true rfl⟩) hP hD hS hA rfl rfl rfl (by decide) (fun _ => rfl) rfl (fun r39 _ H locs hw hP hD hS => ?_)
      refine lv_icmp_lt (tgt := 74) hx hb d_U_goOn_42 (by decide) (fun c42 => ?_) (fun c42 => ?_)
      · have hw := hw.1 c42
        exact jn74 xU_ xf_ _ _ _ hw hP hD hS (lv_sub hl [0, 1, 3] rfl)
      · have hw := hw.2 c42
        refine lv_aload_n hx hb d_U_goOn_45 rfl (lv_at hl 0 rfl) ?_
        refine lv_iload_n hx hb d_U_goOn_46 rfl (lv_at hl 1 rfl) ?_
        refine lv_aload_n hx hb d_U_goOn_47 rfl (lv_at hl 2 rfl) ?_
        refine x_ci (w2 := fun _ => (wd_Uf qU qf cI cZ cL xU_ xf_)) [0, 1, 2, 3, 4, 5, 6, 7, 8, 9, 10, 11] [] [0, 1, 2, 3, 4, 5, 6, 7, 8, 9, 10, 11] (va_runV (As := [.int a1, .ref qf]) (rest := []) ⟨hx, hb, hml, hown, hts⟩ (c_U_canRefill l dC dI cI cZ cL qU qf _ xU_ xf_ a1 _ hw) (cwV 2 hts (x_gV k_301 k_303 k_2 k_27 k_304) rfl rfl rfl (by decide +kernel) ⟨Nat.le_of_ble_eq_true rfl, Nat.le_of_ble_eq_true rfl⟩) ⟨x_blind, va_recv hK hP (ci := 1) (q0 := 0) rfl rfl, fun U hU hW => x_pre (isC := [0, 1, 2, 3, 4, 5, 6, 7, 8, 9, 10, 11]) hK hP hD rfl rfl hU hW⟩ rfl rfl hl.1 rfl (lv_room (Nat.le_of_ble_eq_true rfl)) d_U_goOn_48 ⟨Nat.le_of_ble_eq_true rfl, Nat.le_of_ble_eq_true rfl⟩) hP hD hS hA rfl rfl rfl (by decide) (fun _ => rfl) rfl (fun r48 _ H locs hw hP hD hS => ?_)
        refine lv_if_eq (tgt := 74) hx hb d_U_goOn_51 (by decide) (fun c51 => ?_) (fun c51 => ?_)
        · have hw := hw.1 c51
          exact jn74 xU_ xf_ _ _ _ hw hP hD hS (lv_sub hl [0, 1, 3] rfl)
        · have hw := hw.2 c51
          refine lv_aload_n hx hb d_U_goOn_54 rfl (lv_at hl 0 rfl) ?_
          refine lv_iload_n hx hb d_U_goOn_55 rfl (lv_at hl 1 rfl) ?_
          refine lv_aload_n hx hb d_U_goOn_56 rfl (lv_at hl 2 rfl) ?_
          refine x_cv (w2 := fun u57 => (wd_Uf qU qf cI cZ cL u57.1 u57.2)) [0, 1, 2, 3, 4, 5, 6, 7, 8, 9, 10, 11] [] [0, 1, 2, 3, 4, 5, 6, 7, 8, 9, 10, 11] (va_runV (As := [.int a1, .ref qf]) (rest := []) ⟨hx, hb, hml, hown, hts⟩ (c_U_refill l dC dI cI cZ cL qU qf _ xU_ xf_ a1 _ hw) (cwV 2 hts (x_gV k_305 k_307 k_3 k_27 k_308) rfl rfl rfl (by decide +kernel) ⟨Nat.le_of_ble_eq_true rfl, Nat.le_of_ble_eq_true rfl⟩) ⟨x_blind, va_recv hK hP (ci := 1) (q0 := 0) rfl rfl, fun U hU hW => x_pre (isC := [0, 1, 2, 3, 4, 5, 6, 7, 8, 9, 10, 11]) hK hP hD rfl rfl hU hW⟩ rfl rfl hl.1 rfl (lv_room (Nat.le_of_ble_eq_true rfl)) d_U_goOn_57 ⟨Nat.le_of_ble_eq_true rfl, Nat.le_of_ble_eq_true rfl⟩) hP hD hS hA rfl rfl rfl (by decide) (fun _ => rfl) rfl (fun u57 H locs hw hP hD hS => ?_)
          refine lv_aload_n hx hb d_U_goOn_60 rfl (lv_at hl 0 rfl) ?_
          refine va_get (D := (dC, dI)) (ci := 1) (v := .ref (qU 5)) (C := "ReleaseRows$UnitRows") (T := T_U) (N := 11) hx hb hts in_U hown hK hP 0 rfl rfl 4 (by decide) (hts _ k_58) (fun _ h9 => h9) rfl d_U_goOn_61 ?_
          refine lv_iload_n hx hb d_U_goOn_64 rfl (lv_at hl 1 rfl) ?_
          refine lv_iconst (v := (0 : Int32)) hx hb d_U_goOn_65 (by decide) ?_
          obtain ⟨h66, hw⟩ := hw
          refine va_iast hx hb hK hP hD hS 5 0 rfl rfl h66 d_U_goOn_66 (fun H locs hP hD hS => ?_)
          have hP : va_P (dC, dI) vwCl (wd_Uf qU qf cI cZ cL (sA u57.1 4 a1.toNatClampNeg (0 : Int32)) u57.2) H := hP
          have hD : va_D A (wd_Uf qU qf cI cZ cL (sA u57.1 4 a1.toNatClampNeg (0 : Int32)) u57.2) := hD
          refine lv_aload_n hx hb d_U_goOn_67 rfl (lv_at hl 0 rfl) ?_
          refine lv_iload_n hx hb d_U_goOn_68 rfl (lv_at hl 1 rfl) ?_
          refine lv_iconst (v := (5 : Int32)) hx hb d_U_goOn_69 (by decide) ?_
          refine lv_iload_n hx hb d_U_goOn_70 rfl (lv_at hl 3 rfl) ?_
          refine x_cv (w2 := fun u71 => (wd_Uf qU qf cI cZ cL u71 u57.2)) [0, 1, 2, 3, 4, 5, 6, 7, 8, 9, 10] [11] [1, 2, 3, 4, 5, 6, 7, 8, 9, 10, 11, 0] (va_runV (As := [.int a1, .int (5 : Int32), .int a3]) (rest := []) ⟨hx, hb, hml, hown, hts⟩ (c_U_become l dC dI cI cZ cL qU _ (sA u57.1 4 a1.toNatClampNeg (0 : Int32)) a1 (5 : Int32) a3 _ hw) (cwV 3 hts (x_gV k_281 k_282 k_283 k_27 k_284) rfl rfl rfl (by decide +kernel) ⟨Nat.le_of_ble_eq_true rfl, Nat.le_of_ble_eq_true rfl⟩) ⟨x_blind, va_recv hK hP (ci := 1) (q0 := 0) rfl rfl, fun U hU hW => x_pre (isC := [0, 1, 2, 3, 4, 5, 6, 7, 8, 9, 10]) hK hP hD rfl rfl hU hW⟩ rfl rfl hl.1 rfl (lv_room (Nat.le_of_ble_eq_true rfl)) d_U_goOn_71 ⟨Nat.le_of_ble_eq_true rfl, Nat.le_of_ble_eq_true rfl⟩) hP hD hS hA rfl rfl rfl (by decide) (fun _ => rfl) rfl (fun u71 H locs hw hP hD hS => ?_)
          exact jn74 u71 u57.2 _ _ _ hw hP hD hS (lv_sub hl [0, 1, 3] rfl)
  unfold wp_U_goOn at hw
  refine lv_aload_n hx hb d_U_goOn_0 rfl (lv_at hl 0 rfl) ?_
  refine va_get (D := (dC, dI)) (ci := 1) (v := .ref (qU 6)) (C := "ReleaseRows$UnitRows") (T := T_U) (N := 11) hx hb hts in_U hown hK hP 0 rfl rfl 5 (by decide) (hts _ k_60) (fun _ h9 => h9) rfl d_U_goOn_1 ?_
  refine lv_iload_n hx hb d_U_goOn_4 rfl (lv_at hl 1 rfl) ?_
  obtain ⟨h5, hw⟩ := hw
  refine va_iald hx hb hK hP 6 0 rfl rfl h5 d_U_goOn_5 ?_
  refine lv_iconst (v := (3 : Int32)) hx hb d_U_goOn_6 (by decide) ?_
  refine lv_icmp_ne (tgt := 26) hx hb d_U_goOn_7 (by decide) (fun c7 => ?_) (fun c7 => ?_)
  · have hw := hw.1 c7
    exact jn26 xU xf _ _ _ hw hP hD hS hl
  · have hw := hw.2 c7
    refine lv_iload_n hx hb d_U_goOn_10 rfl (lv_at hl 3 rfl) ?_
    refine lv_aload_n hx hb d_U_goOn_11 rfl (lv_at hl 0 rfl) ?_
    refine lv_iload_n hx hb d_U_goOn_12 rfl (lv_at hl 1 rfl) ?_
    refine x_ci (w2 := fun _ => (wd_Uf qU qf cI cZ cL xU xf)) [0, 1, 2, 3, 4, 5, 6, 7, 8, 9, 10] [11] [1, 2, 3, 4, 5, 6, 7, 8, 9, 10, 11, 0] (va_runV (As := [.int a1]) (rest := [.int a3]) ⟨hx, hb, hml, hown, hts⟩ (c_U_workEnd l dC dI cI cZ cL qU _ xU a1 _ hw) (cwV 1 hts (x_gV k_297 k_298 k_299 k_27 k_300) rfl rfl rfl (by decide +kernel) ⟨Nat.le_of_ble_eq_true rfl, Nat.le_of_ble_eq_true rfl⟩) ⟨x_blind, va_recv hK hP (ci := 1) (q0 := 0) rfl rfl, fun U hU hW => x_pre (isC := [0, 1, 2, 3, 4, 5, 6, 7, 8, 9, 10]) hK hP hD rfl rfl hU hW⟩ rfl rfl hl.1 rfl (lv_room (Nat.le_of_ble_eq_true rfl)) d_U_goOn_13 ⟨Nat.le_of_ble_eq_true rfl, Nat.le_of_ble_eq_true rfl⟩) hP hD hS hA rfl rfl rfl (by decide) (fun _ => rfl) rfl (fun r13 _ H locs hw hP hD hS => ?_)
    refine lv_icmp_lt (tgt := 26) hx hb d_U_goOn_16 (by decide) (fun c16 => ?_) (fun c16 => ?_)
    · have hw := hw.1 c16
      exact jn26 xU xf _ _ _ hw hP hD hS hl
    · have hw := hw.2 c16
      refine lv_aload_n hx hb d_U_goOn_19 rfl (lv_at hl 0 rfl) ?_
      refine lv_iload_n hx hb d_U_goOn_20 rfl (lv_at hl 1 rfl) ?_
      refine lv_iconst (v := (4 : Int32)) hx hb d_U_goOn_21 (by decide) ?_
      refine lv_iload_n hx hb d_U_goOn_22 rfl (lv_at hl 3 rfl) ?_
      refine x_cv (w2 := fun u23 => (wd_Uf qU qf cI cZ cL u23 xf)) [0, 1, 2, 3, 4, 5, 6, 7, 8, 9, 10] [11] [1, 2, 3, 4, 5, 6, 7, 8, 9, 10, 11, 0] (va_runV (As := [.int a1, .int (4 : Int32), .int a3]) (rest := []) ⟨hx, hb, hml, hown, hts⟩ (c_U_become l dC dI cI cZ cL qU _ xU a1 (4 : Int32) a3 _ hw) (cwV 3 hts (x_gV k_281 k_282 k_283 k_27 k_284) rfl rfl rfl (by decide +kernel) ⟨Nat.le_of_ble_eq_true rfl, Nat.le_of_ble_eq_true rfl⟩) ⟨x_blind, va_recv hK hP (ci := 1) (q0 := 0) rfl rfl, fun U hU hW => x_pre (isC := [0, 1, 2, 3, 4, 5, 6, 7, 8, 9, 10]) hK hP hD rfl rfl hU hW⟩ rfl rfl hl.1 rfl (lv_room (Nat.le_of_ble_eq_true rfl)) d_U_goOn_23 ⟨Nat.le_of_ble_eq_true rfl, Nat.le_of_ble_eq_true rfl⟩) hP hD hS hA rfl rfl rfl (by decide) (fun _ => rfl) rfl (fun u23 H locs hw hP hD hS => ?_)
      exact jn26 u23 xf _ _ _ hw hP hD hS hl
end
section
def wj_I_has_16 (xI : St) (a1 : Int32) (post : Int32 → Unit → Prop)  : Prop := post (0 : Int32) ()
def wp_I_has (xI : St) (a1 : Int32) (post : Int32 → Unit → Prop) : Prop := (a1 < 0 → (wj_I_has_16 xI a1 post )) ∧ (¬ a1 < 0 → (((xI.2 9) ≤ a1 → (wj_I_has_16 xI a1 post )) ∧ (¬ (xI.2 9) ≤ a1 → (post (1 : Int32) ()))))
set_option maxHeartbeats 4000000 in
set_option maxRecDepth 100000 in
theorem c_I_has (l : Launch) (dC : Nat → ClassId) (dI : Nat → Nat → Nat) (cI cZ cL : ClassId) (qI : Nat → Nat) (sz : Nat) (xI : St) (a1 : Int32) (post : Int32 → Unit → Prop) (hw : wp_I_has xI a1 post) : Met l y_I_has w_I_has ({ frames := 0, cells := 0, slots := 0, locals := 0 } : Room) (va_Pc [.ref (qI 0), .int a1] (xP (dC, dI) vwCl [(cI, .int), (cZ, .boolean), (cL, .long)] (wd_I qI cI cZ cL xI) sz)) (va_Qi post (xB (dC, dI) vwCl [(cI, .int), (cZ, .boolean), (cL, .long)] (va_A (wd_I qI cI cZ cL xI) sz) (fun _ => (wd_I qI cI cZ cL xI))) (va_A (wd_I qI cI cZ cL xI) sz)) 0 0 (va_A (wd_I qI cI cZ cL xI) sz) := by
  refine x_ofI (cc := b_I_has) (maxL := 2) (by decide) rfl (Nat.le_of_ble_eq_true rfl) (fun p e s m below meth c A Q hx hb hml hts hown hK hA hP hD hS hret ls hl => ?_)
  have hl : lv_has ls 2 [(0, .ref (qI 0)), (1, .int a1)] := hl
  have jn16 : ∀ (H : Heap) (locs : List Loc) (ls : Array Slot), wj_I_has_16 xI a1 post  → va_P (dC, dI) vwCl (wd_I qI cI cZ cL xI) H → va_D A (wd_I qI cI cZ cL xI) → va_S A s.heap H locs → lv_has ls 2 [] → W p l e (headSpec w_I_has ({ frames := 0, cells := 0, slots := 0, locals := 0 } : Room)).room s m ([.ref (qI 0), .int a1] : List Value).toArray below meth c H locs 0 0 Q (F0 m 16 ls []) := by
    intro  H locs ls hw hP hD hS hl
    unfold wj_I_has_16 at hw
    refine lv_iconst (v := (0 : Int32)) hx hb d_I_has_16 (by decide) ?_
    exact hret (0 : Int32) () _ _ _ _ _ _ (by decide) hw hP hD hS (Nat.le_of_ble_eq_true rfl) (Nat.le_of_ble_eq_true rfl) d_I_has_17
  unfold wp_I_has at hw
  refine lv_iload_n hx hb d_I_has_0 rfl (lv_at hl 1 rfl) ?_
  refine lv_if_lt (tgt := 16) hx hb d_I_has_1 (by decide) (fun c1 => ?_) (fun c1 => ?_)
  · have hw := hw.1 c1
    exact jn16 _ _ _ hw hP hD hS (lv_sub hl [] rfl)
  · have hw := hw.2 c1
    refine lv_iload_n hx hb d_I_has_4 rfl (lv_at hl 1 rfl) ?_
    refine lv_aload_n hx hb d_I_has_5 rfl (lv_at hl 0 rfl) ?_
    refine va_get (D := (dC, dI)) (ci := 0) (v := .int (xI.2 9)) (C := "ReleaseRows$IncidentRows") (T := T_I) (N := 10) hx hb hts in_I hown hK hP 0 rfl rfl 9 (by decide) (hts _ k_119) (fun _ h9 => h9) rfl d_I_has_6 ?_
    refine lv_icmp_ge (tgt := 16) hx hb d_I_has_9 (by decide) (fun c9 => ?_) (fun c9 => ?_)
    · have hw := hw.1 c9
      exact jn16 _ _ _ hw hP hD hS (lv_sub hl [] rfl)
    · have hw := hw.2 c9
      refine lv_iconst (v := (1 : Int32)) hx hb d_I_has_12 (by decide) ?_
      refine lv_goto (tgt := 17) hx hb d_I_has_13 (by decide) ?_
      exact hret (1 : Int32) () _ _ _ _ _ _ (by decide) hw hP hD hS (Nat.le_of_ble_eq_true rfl) (Nat.le_of_ble_eq_true rfl) d_I_has_17

def wp_I_addIncident (xI : St) (a1 : Int32) (post : Int32 → St → Prop) : Prop := ∀ v2_4 : Int32, v2_4 = (xI.2 9) → (vp_in v2_4 20 ∧ (vp_in v2_4 20 ∧ (post v2_4 (sA (sA (sF xI 9 ((xI.2 9) + (1 : Int32))) 0 v2_4.toNatClampNeg a1) 8 v2_4.toNatClampNeg (-1 : Int32)))))
set_option maxHeartbeats 4000000 in
set_option maxRecDepth 100000 in
theorem c_I_addIncident (l : Launch) (dC : Nat → ClassId) (dI : Nat → Nat → Nat) (cI cZ cL : ClassId) (qI : Nat → Nat) (sz : Nat) (xI : St) (a1 : Int32) (post : Int32 → St → Prop) (hw : wp_I_addIncident xI a1 post) : Met l y_I_addIncident w_I_addIncident ({ frames := 0, cells := 0, slots := 0, locals := 0 } : Room) (va_Pc [.ref (qI 0), .int a1] (xP (dC, dI) vwCl [(cI, .int), (cZ, .boolean), (cL, .long)] (wd_I qI cI cZ cL xI) sz)) (va_Qi post (xB (dC, dI) vwCl [(cI, .int), (cZ, .boolean), (cL, .long)] (va_A (wd_I qI cI cZ cL xI) sz) (fun u => (wd_I qI cI cZ cL u))) (va_A (wd_I qI cI cZ cL xI) sz)) 0 0 (va_A (wd_I qI cI cZ cL xI) sz) := by
  refine x_ofI (cc := b_I_addIncident) (maxL := 3) (by decide) rfl (Nat.le_of_ble_eq_true rfl) (fun p e s m below meth c A Q hx hb hml hts hown hK hA hP hD hS hret ls hl => ?_)
  have hl : lv_has ls 3 [(0, .ref (qI 0)), (1, .int a1)] := hl
  unfold wp_I_addIncident at hw
  refine lv_aload_n hx hb d_I_addIncident_0 rfl (lv_at hl 0 rfl) ?_
  refine va_get (D := (dC, dI)) (ci := 0) (v := .int (xI.2 9)) (C := "ReleaseRows$IncidentRows") (T := T_I) (N := 10) hx hb hts in_I hown hK hP 0 rfl rfl 9 (by decide) (hts _ k_119) (fun _ h9 => h9) rfl d_I_addIncident_1 ?_
  refine lv_topi (fun v2_4 ev2_4 => ?_)
  have hw := hw v2_4 ev2_4
  refine lv_istore_n (lv' := [(2, .int v2_4), (0, .ref (qI 0)), (1, .int a1)]) hx hb d_I_addIncident_4 rfl hl (by decide) rfl (fun ls hl => ?_)
  refine lv_aload_n hx hb d_I_addIncident_5 rfl (lv_at hl 1 rfl) ?_
  refine lv_dup hx hb d_I_addIncident_6 rfl ?_
  refine va_get (D := (dC, dI)) (ci := 0) (v := .int (xI.2 9)) (C := "ReleaseRows$IncidentRows") (T := T_I) (N := 10) hx hb hts in_I hown hK hP 0 rfl rfl 9 (by decide) (hts _ k_119) (fun _ h9 => h9) rfl d_I_addIncident_7 ?_
  refine lv_iconst (v := (1 : Int32)) hx hb d_I_addIncident_10 (by decide) ?_
  refine lv_iadd hx hb d_I_addIncident_11 ?_
  refine va_put (D := (dC, dI)) (ci := 0) (v := .int ((xI.2 9) + (1 : Int32))) (ty := .int) (C := "ReleaseRows$IncidentRows") (T := T_I) (N := 10) hx hb hts in_I ty_I tyok_I nm_I hown hK hP hD hS 0 rfl rfl 9 (by decide) (hts _ k_119) (fun _ h9 => h9) rfl (by decide +kernel) rfl rfl (Nat.le_of_ble_eq_true rfl) d_I_addIncident_12 (fun H locs hP hD hS => ?_)
  have hP : va_P (dC, dI) vwCl (wd_I qI cI cZ cL (sF xI 9 ((xI.2 9) + (1 : Int32)))) H := hP
  have hD : va_D A (wd_I qI cI cZ cL (sF xI 9 ((xI.2 9) + (1 : Int32)))) := hD
  refine lv_aload_n hx hb d_I_addIncident_15 rfl (lv_at hl 1 rfl) ?_
  refine va_get (D := (dC, dI)) (ci := 0) (v := .ref (qI 1)) (C := "ReleaseRows$IncidentRows") (T := T_I) (N := 10) hx hb hts in_I hown hK hP 0 rfl rfl 0 (by decide) (hts _ k_102) (fun _ h9 => h9) rfl d_I_addIncident_16 ?_
  refine lv_iload_n hx hb d_I_addIncident_19 rfl (lv_at hl 0 rfl) ?_
  refine lv_iload_n hx hb d_I_addIncident_20 rfl (lv_at hl 2 rfl) ?_
  obtain ⟨h21, hw⟩ := hw
  refine va_iast hx hb hK hP hD hS 1 0 rfl rfl h21 d_I_addIncident_21 (fun H locs hP hD hS => ?_)
  have hP : va_P (dC, dI) vwCl (wd_I qI cI cZ cL (sA (sF xI 9 ((xI.2 9) + (1 : Int32))) 0 v2_4.toNatClampNeg a1)) H := hP
  have hD : va_D A (wd_I qI cI cZ cL (sA (sF xI 9 ((xI.2 9) + (1 : Int32))) 0 v2_4.toNatClampNeg a1)) := hD
  refine lv_aload_n hx hb d_I_addIncident_22 rfl (lv_at hl 1 rfl) ?_
  refine va_get (D := (dC, dI)) (ci := 0) (v := .ref (qI 9)) (C := "ReleaseRows$IncidentRows") (T := T_I) (N := 10) hx hb hts in_I hown hK hP 0 rfl rfl 8 (by decide) (hts _ k_117) (fun _ h9 => h9) rfl d_I_addIncident_23 ?_
  refine lv_iload_n hx hb d_I_addIncident_26 rfl (lv_at hl 0 rfl) ?_
  refine lv_iconst (v := (-1 : Int32)) hx hb d_I_addIncident_27 (by decide) ?_
  obtain ⟨h28, hw⟩ := hw
  refine va_iast hx hb hK hP hD hS 9 0 rfl rfl h28 d_I_addIncident_28 (fun H locs hP hD hS => ?_)
  have hP : va_P (dC, dI) vwCl (wd_I qI cI cZ cL (sA (sA (sF xI 9 ((xI.2 9) + (1 : Int32))) 0 v2_4.toNatClampNeg a1) 8 v2_4.toNatClampNeg (-1 : Int32))) H := hP
  have hD : va_D A (wd_I qI cI cZ cL (sA (sA (sF xI 9 ((xI.2 9) + (1 : Int32))) 0 v2_4.toNatClampNeg a1) 8 v2_4.toNatClampNeg (-1 : Int32))) := hD
  refine lv_iload_n hx hb d_I_addIncident_29 rfl (lv_at hl 0 rfl) ?_
  exact hret v2_4 (sA (sA (sF xI 9 ((xI.2 9) + (1 : Int32))) 0 v2_4.toNatClampNeg a1) 8 v2_4.toNatClampNeg (-1 : Int32)) _ _ _ _ _ _ rfl hw hP hD hS (Nat.le_of_ble_eq_true rfl) (Nat.le_of_ble_eq_true rfl) d_I_addIncident_30

def wl_I_latestOf_7 (xI : St) (a1 : Int32) (post : Int32 → Unit → Prop) : Nat → Int32 → Prop
  | 0 => fun _ => False
  | n9 + 1 => fun v2_ => (v2_ < 0 → (post (-1 : Int32) ())) ∧ (¬ v2_ < 0 → (vp_in v2_ 20 ∧ ((¬ (xI.1 0 v2_.toNatClampNeg) = a1 → (∀ v2_23 : Int32, v2_23 = v2_ + (-1) → ((wl_I_latestOf_7 xI a1 post n9) v2_23))) ∧ ((xI.1 0 v2_.toNatClampNeg) = a1 → (post v2_ ())))))
def wp_I_latestOf (xI : St) (a1 : Int32) (post : Int32 → Unit → Prop) : Prop := ∀ v2_6 : Int32, v2_6 = ((xI.2 9) - (1 : Int32)) → (∃ k9 : Nat, wl_I_latestOf_7 xI a1 post k9 v2_6)
set_option maxHeartbeats 4000000 in
set_option maxRecDepth 100000 in
theorem c_I_latestOf (l : Launch) (dC : Nat → ClassId) (dI : Nat → Nat → Nat) (cI cZ cL : ClassId) (qI : Nat → Nat) (sz : Nat) (xI : St) (a1 : Int32) (post : Int32 → Unit → Prop) (hw : wp_I_latestOf xI a1 post) : Met l y_I_latestOf w_I_latestOf ({ frames := 0, cells := 0, slots := 0, locals := 0 } : Room) (va_Pc [.ref (qI 0), .int a1] (xP (dC, dI) vwCl [(cI, .int), (cZ, .boolean), (cL, .long)] (wd_I qI cI cZ cL xI) sz)) (va_Qi post (xB (dC, dI) vwCl [(cI, .int), (cZ, .boolean), (cL, .long)] (va_A (wd_I qI cI cZ cL xI) sz) (fun _ => (wd_I qI cI cZ cL xI))) (va_A (wd_I qI cI cZ cL xI) sz)) 0 0 (va_A (wd_I qI cI cZ cL xI) sz) := by
  refine x_ofI (cc := b_I_latestOf) (maxL := 3) (by decide) rfl (Nat.le_of_ble_eq_true rfl) (fun p e s m below meth c A Q hx hb hml hts hown hK hA hP hD hS hret ls hl => ?_)
  have hl : lv_has ls 3 [(0, .ref (qI 0)), (1, .int a1)] := hl
  have lp7 : ∀ (n7 : Nat) (v2_ : Int32) (H : Heap) (locs : List Loc) (ls : Array Slot), wl_I_latestOf_7 xI a1 post n7 v2_ → va_P (dC, dI) vwCl (wd_I qI cI cZ cL xI) H → va_D A (wd_I qI cI cZ cL xI) → va_S A s.heap H locs → lv_has ls 3 [(0, .ref (qI 0)), (1, .int a1), (2, .int v2_)] → W p l e (headSpec w_I_latestOf ({ frames := 0, cells := 0, slots := 0, locals := 0 } : Room)).room s m ([.ref (qI 0), .int a1] : List Value).toArray below meth c H locs 0 0 Q (F0 m 7 ls []) := by
    intro n7
    induction n7 with
    | zero => intro v2_ H locs ls hw; exact hw.elim
    | succ n7 ih7 =>
      intro v2_ H locs ls hw hP hD hS hl
      unfold wl_I_latestOf_7 at hw
      refine lv_iload_n hx hb d_I_latestOf_7 rfl (lv_at hl 2 rfl) ?_
      refine lv_if_lt (tgt := 29) hx hb d_I_latestOf_8 (by decide) (fun c8 => ?_) (fun c8 => ?_)
      · have hw := hw.1 c8
        refine lv_iconst (v := (-1 : Int32)) hx hb d_I_latestOf_29 (by decide) ?_
        exact hret (-1 : Int32) () _ _ _ _ _ _ rfl hw hP hD hS (Nat.le_of_ble_eq_true rfl) (Nat.le_of_ble_eq_true rfl) d_I_latestOf_30
      · have hw := hw.2 c8
        refine lv_aload_n hx hb d_I_latestOf_11 rfl (lv_at hl 0 rfl) ?_
        refine va_get (D := (dC, dI)) (ci := 0) (v := .ref (qI 1)) (C := "ReleaseRows$IncidentRows") (T := T_I) (N := 10) hx hb hts in_I hown hK hP 0 rfl rfl 0 (by decide) (hts _ k_102) (fun _ h9 => h9) rfl d_I_latestOf_12 ?_
        refine lv_iload_n hx hb d_I_latestOf_15 rfl (lv_at hl 2 rfl) ?_
        obtain ⟨h16, hw⟩ := hw
        refine va_iald hx hb hK hP 1 0 rfl rfl h16 d_I_latestOf_16 ?_
        refine lv_iload_n hx hb d_I_latestOf_17 rfl (lv_at hl 1 rfl) ?_
        refine lv_icmp_ne (tgt := 23) hx hb d_I_latestOf_18 (by decide) (fun c18 => ?_) (fun c18 => ?_)
        · have hw := hw.1 c18
          obtain ⟨v2_23, ev2_23⟩ : ∃ y : Int32, y = v2_ + (-1) := ⟨_, rfl⟩
          have hw := hw v2_23 ev2_23
          refine lv_iinc (v := v2_23) (lv' := [(2, .int v2_23), (0, .ref (qI 0)), (1, .int a1)]) hx hb d_I_latestOf_23 hl (k := 2) rfl (by rw [ev2_23]; rfl) (by decide) rfl (fun ls hl => ?_)
          refine lv_goto (tgt := 7) hx hb d_I_latestOf_26 (by decide) ?_
          exact ih7 v2_23 _ _ _ hw hP hD hS (lv_sub hl [1, 2, 0] rfl)
        · have hw := hw.2 c18
          refine lv_iload_n hx hb d_I_latestOf_21 rfl (lv_at hl 2 rfl) ?_
          exact hret v2_ () _ _ _ _ _ _ rfl hw hP hD hS (Nat.le_of_ble_eq_true rfl) (Nat.le_of_ble_eq_true rfl) d_I_latestOf_22
  unfold wp_I_latestOf at hw
  refine lv_aload_n hx hb d_I_latestOf_0 rfl (lv_at hl 0 rfl) ?_
  refine va_get (D := (dC, dI)) (ci := 0) (v := .int (xI.2 9)) (C := "ReleaseRows$IncidentRows") (T := T_I) (N := 10) hx hb hts in_I hown hK hP 0 rfl rfl 9 (by decide) (hts _ k_119) (fun _ h9 => h9) rfl d_I_latestOf_1 ?_
  refine lv_iconst (v := (1 : Int32)) hx hb d_I_latestOf_4 (by decide) ?_
  refine lv_isub hx hb d_I_latestOf_5 ?_
  refine lv_topi (fun v2_6 ev2_6 => ?_)
  have hw := hw v2_6 ev2_6
  refine lv_istore_n (lv' := [(2, .int v2_6), (0, .ref (qI 0)), (1, .int a1)]) hx hb d_I_latestOf_6 rfl hl (by decide) rfl (fun ls hl => ?_)
  obtain ⟨n9, hw⟩ := hw
  exact lp7 n9 v2_6 _ _ _ hw hP hD hS (lv_sub hl [1, 2, 0] rfl)

def wp_I_open (xI : St) (a1 : Int32) (post : St → Prop) : Prop := vp_in a1 20 ∧ (vp_in a1 20 ∧ (vp_in a1 20 ∧ (vp_in a1 20 ∧ (vp_in a1 20 ∧ (vp_in a1 20 ∧ (vp_in a1 20 ∧ (post (sA (sA (sA (sA (sA (sA xI 1 a1.toNatClampNeg (vp_nar .boolean (1 : Int32))) 2 a1.toNatClampNeg (vp_nar .boolean (0 : Int32))) 3 a1.toNatClampNeg (0 : Int32)) 4 a1.toNatClampNeg (0 : Int32)) 5 a1.toNatClampNeg (-1 : Int32)) 6 a1.toNatClampNeg (((sA (sA (sA (sA (sA xI 1 a1.toNatClampNeg (vp_nar .boolean (1 : Int32))) 2 a1.toNatClampNeg (vp_nar .boolean (0 : Int32))) 3 a1.toNatClampNeg (0 : Int32)) 4 a1.toNatClampNeg (0 : Int32)) 5 a1.toNatClampNeg (-1 : Int32)).1 6 a1.toNatClampNeg) + (1 : Int32))))))))))
set_option maxHeartbeats 4000000 in
set_option maxRecDepth 100000 in
theorem c_I_open (l : Launch) (dC : Nat → ClassId) (dI : Nat → Nat → Nat) (cI cZ cL : ClassId) (qI : Nat → Nat) (sz : Nat) (xI : St) (a1 : Int32) (post : St → Prop) (hw : wp_I_open xI a1 post) : Met l y_I_open w_I_open ({ frames := 0, cells := 0, slots := 0, locals := 0 } : Room) (va_Pc [.ref (qI 0), .int a1] (xP (dC, dI) vwCl [(cI, .int), (cZ, .boolean), (cL, .long)] (wd_I qI cI cZ cL xI) sz)) (va_Qv post (xB (dC, dI) vwCl [(cI, .int), (cZ, .boolean), (cL, .long)] (va_A (wd_I qI cI cZ cL xI) sz) (fun u => (wd_I qI cI cZ cL u))) (va_A (wd_I qI cI cZ cL xI) sz)) 0 0 (va_A (wd_I qI cI cZ cL xI) sz) := by
  refine x_ofV (cc := b_I_open) (maxL := 2) (by decide) rfl (Nat.le_of_ble_eq_true rfl) (fun p e s m below meth c A Q hx hb hml hts hown hin hK hA hP hD hS hret ls hl => ?_)
  have hl : lv_has ls 2 [(0, .ref (qI 0)), (1, .int a1)] := hl
  unfold wp_I_open at hw
  refine lv_aload_n hx hb d_I_open_0 rfl (lv_at hl 0 rfl) ?_
  refine va_get (D := (dC, dI)) (ci := 0) (v := .ref (qI 2)) (C := "ReleaseRows$IncidentRows") (T := T_I) (N := 10) hx hb hts in_I hown hK hP 0 rfl rfl 1 (by decide) (hts _ k_103) (fun _ h9 => h9) rfl d_I_open_1 ?_
  refine lv_iload_n hx hb d_I_open_4 rfl (lv_at hl 1 rfl) ?_
  refine lv_iconst (v := (1 : Int32)) hx hb d_I_open_5 (by decide) ?_
  obtain ⟨h6, hw⟩ := hw
  refine va_zast hx hb hK hP hD hS 2 1 rfl rfl h6 d_I_open_6 (fun H locs hP hD hS => ?_)
  have hP : va_P (dC, dI) vwCl (wd_I qI cI cZ cL (sA xI 1 a1.toNatClampNeg (vp_nar .boolean (1 : Int32)))) H := hP
  have hD : va_D A (wd_I qI cI cZ cL (sA xI 1 a1.toNatClampNeg (vp_nar .boolean (1 : Int32)))) := hD
  refine lv_aload_n hx hb d_I_open_7 rfl (lv_at hl 0 rfl) ?_
  refine va_get (D := (dC, dI)) (ci := 0) (v := .ref (qI 3)) (C := "ReleaseRows$IncidentRows") (T := T_I) (N := 10) hx hb hts in_I hown hK hP 0 rfl rfl 2 (by decide) (hts _ k_105) (fun _ h9 => h9) rfl d_I_open_8 ?_
  refine lv_iload_n hx hb d_I_open_11 rfl (lv_at hl 1 rfl) ?_
  refine lv_iconst (v := (0 : Int32)) hx hb d_I_open_12 (by decide) ?_
  obtain ⟨h13, hw⟩ := hw
  refine va_zast hx hb hK hP hD hS 3 1 rfl rfl h13 d_I_open_13 (fun H locs hP hD hS => ?_)
  have hP : va_P (dC, dI) vwCl (wd_I qI cI cZ cL (sA (sA xI 1 a1.toNatClampNeg (vp_nar .boolean (1 : Int32))) 2 a1.toNatClampNeg (vp_nar .boolean (0 : Int32)))) H := hP
  have hD : va_D A (wd_I qI cI cZ cL (sA (sA xI 1 a1.toNatClampNeg (vp_nar .boolean (1 : Int32))) 2 a1.toNatClampNeg (vp_nar .boolean (0 : Int32)))) := hD
  refine lv_aload_n hx hb d_I_open_14 rfl (lv_at hl 0 rfl) ?_
  refine va_get (D := (dC, dI)) (ci := 0) (v := .ref (qI 4)) (C := "ReleaseRows$IncidentRows") (T := T_I) (N := 10) hx hb hts in_I hown hK hP 0 rfl rfl 3 (by decide) (hts _ k_107) (fun _ h9 => h9) rfl d_I_open_15 ?_
  refine lv_iload_n hx hb d_I_open_18 rfl (lv_at hl 1 rfl) ?_
  refine lv_iconst (v := (0 : Int32)) hx hb d_I_open_19 (by decide) ?_
  obtain ⟨h20, hw⟩ := hw
  refine va_iast hx hb hK hP hD hS 4 0 rfl rfl h20 d_I_open_20 (fun H locs hP hD hS => ?_)
  have hP : va_P (dC, dI) vwCl (wd_I qI cI cZ cL (sA (sA (sA xI 1 a1.toNatClampNeg (vp_nar .boolean (1 : Int32))) 2 a1.toNatClampNeg (vp_nar .boolean (0 : Int32))) 3 a1.toNatClampNeg (0 : Int32))) H := hP
  have hD : va_D A (wd_I qI cI cZ cL (sA (sA (sA xI 1 a1.toNatClampNeg (vp_nar .boolean (1 : Int32))) 2 a1.toNatClampNeg (vp_nar .boolean (0 : Int32))) 3 a1.toNatClampNeg (0 : Int32))) := hD
  refine lv_aload_n hx hb d_I_open_21 rfl (lv_at hl 0 rfl) ?_
  refine va_get (D := (dC, dI)) (ci := 0) (v := .ref (qI 5)) (C := "ReleaseRows$IncidentRows") (T := T_I) (N := 10) hx hb hts in_I hown hK hP 0 rfl rfl 4 (by decide) (hts _ k_109) (fun _ h9 => h9) rfl d_I_open_22 ?_
  refine lv_iload_n hx hb d_I_open_25 rfl (lv_at hl 1 rfl) ?_
  refine lv_iconst (v := (0 : Int32)) hx hb d_I_open_26 (by decide) ?_
  obtain ⟨h27, hw⟩ := hw
  refine va_iast hx hb hK hP hD hS 5 0 rfl rfl h27 d_I_open_27 (fun H locs hP hD hS => ?_)
  have hP : va_P (dC, dI) vwCl (wd_I qI cI cZ cL (sA (sA (sA (sA xI 1 a1.toNatClampNeg (vp_nar .boolean (1 : Int32))) 2 a1.toNatClampNeg (vp_nar .boolean (0 : Int32))) 3 a1.toNatClampNeg (0 : Int32)) 4 a1.toNatClampNeg (0 : Int32))) H := hP
  have hD : va_D A (wd_I qI cI cZ cL (sA (sA (sA (sA xI 1 a1.toNatClampNeg (vp_nar .boolean (1 : Int32))) 2 a1.toNatClampNeg (vp_nar .boolean (0 : Int32))) 3 a1.toNatClampNeg (0 : Int32)) 4 a1.toNatClampNeg (0 : Int32))) := hD
  refine lv_aload_n hx hb d_I_open_28 rfl (lv_at hl 0 rfl) ?_
  refine va_get (D := (dC, dI)) (ci := 0) (v := .ref (qI 6)) (C := "ReleaseRows$IncidentRows") (T := T_I) (N := 10) hx hb hts in_I hown hK hP 0 rfl rfl 5 (by decide) (hts _ k_111) (fun _ h9 => h9) rfl d_I_open_29 ?_
  refine lv_iload_n hx hb d_I_open_32 rfl (lv_at hl 1 rfl) ?_
  refine lv_iconst (v := (-1 : Int32)) hx hb d_I_open_33 (by decide) ?_
  obtain ⟨h34, hw⟩ := hw
  refine va_iast hx hb hK hP hD hS 6 0 rfl rfl h34 d_I_open_34 (fun H locs hP hD hS => ?_)
  have hP : va_P (dC, dI) vwCl (wd_I qI cI cZ cL (sA (sA (sA (sA (sA xI 1 a1.toNatClampNeg (vp_nar .boolean (1 : Int32))) 2 a1.toNatClampNeg (vp_nar .boolean (0 : Int32))) 3 a1.toNatClampNeg (0 : Int32)) 4 a1.toNatClampNeg (0 : Int32)) 5 a1.toNatClampNeg (-1 : Int32))) H := hP
  have hD : va_D A (wd_I qI cI cZ cL (sA (sA (sA (sA (sA xI 1 a1.toNatClampNeg (vp_nar .boolean (1 : Int32))) 2 a1.toNatClampNeg (vp_nar .boolean (0 : Int32))) 3 a1.toNatClampNeg (0 : Int32)) 4 a1.toNatClampNeg (0 : Int32)) 5 a1.toNatClampNeg (-1 : Int32))) := hD
  refine lv_aload_n hx hb d_I_open_35 rfl (lv_at hl 0 rfl) ?_
  refine va_get (D := (dC, dI)) (ci := 0) (v := .ref (qI 7)) (C := "ReleaseRows$IncidentRows") (T := T_I) (N := 10) hx hb hts in_I hown hK hP 0 rfl rfl 6 (by decide) (hts _ k_113) (fun _ h9 => h9) rfl d_I_open_36 ?_
  refine lv_iload_n hx hb d_I_open_39 rfl (lv_at hl 1 rfl) ?_
  refine lv_dup2_11 hx hb d_I_open_40 rfl rfl ?_
  obtain ⟨h41, hw⟩ := hw
  refine va_iald hx hb hK hP 7 0 rfl rfl h41 d_I_open_41 ?_
  refine lv_iconst (v := (1 : Int32)) hx hb d_I_open_42 (by decide) ?_
  refine lv_iadd hx hb d_I_open_43 ?_
  obtain ⟨h44, hw⟩ := hw
  refine va_iast hx hb hK hP hD hS 7 0 rfl rfl h44 d_I_open_44 (fun H locs hP hD hS => ?_)
  have hP : va_P (dC, dI) vwCl (wd_I qI cI cZ cL (sA (sA (sA (sA (sA (sA xI 1 a1.toNatClampNeg (vp_nar .boolean (1 : Int32))) 2 a1.toNatClampNeg (vp_nar .boolean (0 : Int32))) 3 a1.toNatClampNeg (0 : Int32)) 4 a1.toNatClampNeg (0 : Int32)) 5 a1.toNatClampNeg (-1 : Int32)) 6 a1.toNatClampNeg (((sA (sA (sA (sA (sA xI 1 a1.toNatClampNeg (vp_nar .boolean (1 : Int32))) 2 a1.toNatClampNeg (vp_nar .boolean (0 : Int32))) 3 a1.toNatClampNeg (0 : Int32)) 4 a1.toNatClampNeg (0 : Int32)) 5 a1.toNatClampNeg (-1 : Int32)).1 6 a1.toNatClampNeg) + (1 : Int32)))) H := hP
  have hD : va_D A (wd_I qI cI cZ cL (sA (sA (sA (sA (sA (sA xI 1 a1.toNatClampNeg (vp_nar .boolean (1 : Int32))) 2 a1.toNatClampNeg (vp_nar .boolean (0 : Int32))) 3 a1.toNatClampNeg (0 : Int32)) 4 a1.toNatClampNeg (0 : Int32)) 5 a1.toNatClampNeg (-1 : Int32)) 6 a1.toNatClampNeg (((sA (sA (sA (sA (sA xI 1 a1.toNatClampNeg (vp_nar .boolean (1 : Int32))) 2 a1.toNatClampNeg (vp_nar .boolean (0 : Int32))) 3 a1.toNatClampNeg (0 : Int32)) 4 a1.toNatClampNeg (0 : Int32)) 5 a1.toNatClampNeg (-1 : Int32)).1 6 a1.toNatClampNeg) + (1 : Int32)))) := hD
  exact hret (sA (sA (sA (sA (sA (sA xI 1 a1.toNatClampNeg (vp_nar .boolean (1 : Int32))) 2 a1.toNatClampNeg (vp_nar .boolean (0 : Int32))) 3 a1.toNatClampNeg (0 : Int32)) 4 a1.toNatClampNeg (0 : Int32)) 5 a1.toNatClampNeg (-1 : Int32)) 6 a1.toNatClampNeg (((sA (sA (sA (sA (sA xI 1 a1.toNatClampNeg (vp_nar .boolean (1 : Int32))) 2 a1.toNatClampNeg (vp_nar .boolean (0 : Int32))) 3 a1.toNatClampNeg (0 : Int32)) 4 a1.toNatClampNeg (0 : Int32)) 5 a1.toNatClampNeg (-1 : Int32)).1 6 a1.toNatClampNeg) + (1 : Int32))) _ _ _ _ _ _ hw hP hD hS (Nat.le_of_ble_eq_true rfl) (Nat.le_of_ble_eq_true rfl) d_I_open_45

def wp_I_close (xI : St) (a1 : Int32) (a2 : Int32) (post : St → Prop) : Prop := vp_in a1 20 ∧ (vp_in a1 20 ∧ (vp_in a1 20 ∧ (vp_in a1 20 ∧ (post (sA (sA (sA xI 1 a1.toNatClampNeg (vp_nar .boolean (0 : Int32))) 7 a1.toNatClampNeg (((sA xI 1 a1.toNatClampNeg (vp_nar .boolean (0 : Int32))).1 7 a1.toNatClampNeg) + (1 : Int32))) 8 a1.toNatClampNeg a2)))))
set_option maxHeartbeats 4000000 in
set_option maxRecDepth 100000 in
theorem c_I_close (l : Launch) (dC : Nat → ClassId) (dI : Nat → Nat → Nat) (cI cZ cL : ClassId) (qI : Nat → Nat) (sz : Nat) (xI : St) (a1 : Int32) (a2 : Int32) (post : St → Prop) (hw : wp_I_close xI a1 a2 post) : Met l y_I_close w_I_close ({ frames := 0, cells := 0, slots := 0, locals := 0 } : Room) (va_Pc [.ref (qI 0), .int a1, .int a2] (xP (dC, dI) vwCl [(cI, .int), (cZ, .boolean), (cL, .long)] (wd_I qI cI cZ cL xI) sz)) (va_Qv post (xB (dC, dI) vwCl [(cI, .int), (cZ, .boolean), (cL, .long)] (va_A (wd_I qI cI cZ cL xI) sz) (fun u => (wd_I qI cI cZ cL u))) (va_A (wd_I qI cI cZ cL xI) sz)) 0 0 (va_A (wd_I qI cI cZ cL xI) sz) := by
  refine x_ofV (cc := b_I_close) (maxL := 3) (by decide) rfl (Nat.le_of_ble_eq_true rfl) (fun p e s m below meth c A Q hx hb hml hts hown hin hK hA hP hD hS hret ls hl => ?_)
  have hl : lv_has ls 3 [(0, .ref (qI 0)), (1, .int a1), (2, .int a2)] := hl
  unfold wp_I_close at hw
  refine lv_aload_n hx hb d_I_close_0 rfl (lv_at hl 0 rfl) ?_
  refine va_get (D := (dC, dI)) (ci := 0) (v := .ref (qI 2)) (C := "ReleaseRows$IncidentRows") (T := T_I) (N := 10) hx hb hts in_I hown hK hP 0 rfl rfl 1 (by decide) (hts _ k_103) (fun _ h9 => h9) rfl d_I_close_1 ?_
  refine lv_iload_n hx hb d_I_close_4 rfl (lv_at hl 1 rfl) ?_
  refine lv_iconst (v := (0 : Int32)) hx hb d_I_close_5 (by decide) ?_
  obtain ⟨h6, hw⟩ := hw
  refine va_zast hx hb hK hP hD hS 2 1 rfl rfl h6 d_I_close_6 (fun H locs hP hD hS => ?_)
  have hP : va_P (dC, dI) vwCl (wd_I qI cI cZ cL (sA xI 1 a1.toNatClampNeg (vp_nar .boolean (0 : Int32)))) H := hP
  have hD : va_D A (wd_I qI cI cZ cL (sA xI 1 a1.toNatClampNeg (vp_nar .boolean (0 : Int32)))) := hD
  refine lv_aload_n hx hb d_I_close_7 rfl (lv_at hl 0 rfl) ?_
  refine va_get (D := (dC, dI)) (ci := 0) (v := .ref (qI 8)) (C := "ReleaseRows$IncidentRows") (T := T_I) (N := 10) hx hb hts in_I hown hK hP 0 rfl rfl 7 (by decide) (hts _ k_115) (fun _ h9 => h9) rfl d_I_close_8 ?_
  refine lv_iload_n hx hb d_I_close_11 rfl (lv_at hl 1 rfl) ?_
  refine lv_dup2_11 hx hb d_I_close_12 rfl rfl ?_
  obtain ⟨h13, hw⟩ := hw
  refine va_iald hx hb hK hP 8 0 rfl rfl h13 d_I_close_13 ?_
  refine lv_iconst (v := (1 : Int32)) hx hb d_I_close_14 (by decide) ?_
  refine lv_iadd hx hb d_I_close_15 ?_
  obtain ⟨h16, hw⟩ := hw
  refine va_iast hx hb hK hP hD hS 8 0 rfl rfl h16 d_I_close_16 (fun H locs hP hD hS => ?_)
  have hP : va_P (dC, dI) vwCl (wd_I qI cI cZ cL (sA (sA xI 1 a1.toNatClampNeg (vp_nar .boolean (0 : Int32))) 7 a1.toNatClampNeg (((sA xI 1 a1.toNatClampNeg (vp_nar .boolean (0 : Int32))).1 7 a1.toNatClampNeg) + (1 : Int32)))) H := hP
  have hD : va_D A (wd_I qI cI cZ cL (sA (sA xI 1 a1.toNatClampNeg (vp_nar .boolean (0 : Int32))) 7 a1.toNatClampNeg (((sA xI 1 a1.toNatClampNeg (vp_nar .boolean (0 : Int32))).1 7 a1.toNatClampNeg) + (1 : Int32)))) := hD
  refine lv_aload_n hx hb d_I_close_17 rfl (lv_at hl 0 rfl) ?_
  refine va_get (D := (dC, dI)) (ci := 0) (v := .ref (qI 9)) (C := "ReleaseRows$IncidentRows") (T := T_I) (N := 10) hx hb hts in_I hown hK hP 0 rfl rfl 8 (by decide) (hts _ k_117) (fun _ h9 => h9) rfl d_I_close_18 ?_
  refine lv_iload_n hx hb d_I_close_21 rfl (lv_at hl 1 rfl) ?_
  refine lv_iload_n hx hb d_I_close_22 rfl (lv_at hl 2 rfl) ?_
  obtain ⟨h23, hw⟩ := hw
  refine va_iast hx hb hK hP hD hS 9 0 rfl rfl h23 d_I_close_23 (fun H locs hP hD hS => ?_)
  have hP : va_P (dC, dI) vwCl (wd_I qI cI cZ cL (sA (sA (sA xI 1 a1.toNatClampNeg (vp_nar .boolean (0 : Int32))) 7 a1.toNatClampNeg (((sA xI 1 a1.toNatClampNeg (vp_nar .boolean (0 : Int32))).1 7 a1.toNatClampNeg) + (1 : Int32))) 8 a1.toNatClampNeg a2)) H := hP
  have hD : va_D A (wd_I qI cI cZ cL (sA (sA (sA xI 1 a1.toNatClampNeg (vp_nar .boolean (0 : Int32))) 7 a1.toNatClampNeg (((sA xI 1 a1.toNatClampNeg (vp_nar .boolean (0 : Int32))).1 7 a1.toNatClampNeg) + (1 : Int32))) 8 a1.toNatClampNeg a2)) := hD
  exact hret (sA (sA (sA xI 1 a1.toNatClampNeg (vp_nar .boolean (0 : Int32))) 7 a1.toNatClampNeg (((sA xI 1 a1.toNatClampNeg (vp_nar .boolean (0 : Int32))).1 7 a1.toNatClampNeg) + (1 : Int32))) 8 a1.toNatClampNeg a2) _ _ _ _ _ _ hw hP hD hS (Nat.le_of_ble_eq_true rfl) (Nat.le_of_ble_eq_true rfl) d_I_close_24

def wj_I_mayClose_55 (xI : St) (a1 : Int32) (a2 : Int32) (post : Int32 → Unit → Prop)  : Prop := post (0 : Int32) ()
def wp_I_mayClose (xI : St) (a1 : Int32) (a2 : Int32) (post : Int32 → Unit → Prop) : Prop := vp_in a1 20 ∧ (((xI.1 1 a1.toNatClampNeg) = 0 → (wj_I_mayClose_55 xI a1 a2 post )) ∧ (¬ (xI.1 1 a1.toNatClampNeg) = 0 → (vp_in a1 20 ∧ (((xI.1 2 a1.toNatClampNeg) = 0 → (wj_I_mayClose_55 xI a1 a2 post )) ∧ (¬ (xI.1 2 a1.toNatClampNeg) = 0 → (vp_in a1 20 ∧ ((¬ (xI.1 4 a1.toNatClampNeg) = 0 → (wj_I_mayClose_55 xI a1 a2 post )) ∧ ((xI.1 4 a1.toNatClampNeg) = 0 → (vp_in a1 20 ∧ ((¬ ((xI.1 3 a1.toNatClampNeg) &&& (7 : Int32)) = (7 : Int32) → (wj_I_mayClose_55 xI a1 a2 post )) ∧ (((xI.1 3 a1.toNatClampNeg) &&& (7 : Int32)) = (7 : Int32) → (vp_in a1 20 ∧ ((a2 < (xI.1 5 a1.toNatClampNeg) → (wj_I_mayClose_55 xI a1 a2 post )) ∧ (¬ a2 < (xI.1 5 a1.toNatClampNeg) → (post (1 : Int32) ())))))))))))))))
set_option maxHeartbeats 4000000 in
set_option maxRecDepth 100000 in
theorem c_I_mayClose (l : Launch) (dC : Nat → ClassId) (dI : Nat → Nat → Nat) (cI cZ cL : ClassId) (qI : Nat → Nat) (sz : Nat) (xI : St) (a1 : Int32) (a2 : Int32) (post : Int32 → Unit → Prop) (hw : wp_I_mayClose xI a1 a2 post) : Met l y_I_mayClose w_I_mayClose ({ frames := 0, cells := 0, slots := 0, locals := 0 } : Room) (va_Pc [.ref (qI 0), .int a1, .int a2] (xP (dC, dI) vwCl [(cI, .int), (cZ, .boolean), (cL, .long)] (wd_I qI cI cZ cL xI) sz)) (va_Qi post (xB (dC, dI) vwCl [(cI, .int), (cZ, .boolean), (cL, .long)] (va_A (wd_I qI cI cZ cL xI) sz) (fun _ => (wd_I qI cI cZ cL xI))) (va_A (wd_I qI cI cZ cL xI) sz)) 0 0 (va_A (wd_I qI cI cZ cL xI) sz) := by
  refine x_ofI (cc := b_I_mayClose) (maxL := 3) (by decide) rfl (Nat.le_of_ble_eq_true rfl) (fun p e s m below meth c A Q hx hb hml hts hown hK hA hP hD hS hret ls hl => ?_)
  have hl : lv_has ls 3 [(0, .ref (qI 0)), (1, .int a1), (2, .int a2)] := hl
  have jn55 : ∀ (H : Heap) (locs : List Loc) (ls : Array Slot), wj_I_mayClose_55 xI a1 a2 post  → va_P (dC, dI) vwCl (wd_I qI cI cZ cL xI) H → va_D A (wd_I qI cI cZ cL xI) → va_S A s.heap H locs → lv_has ls 3 [] → W p l e (headSpec w_I_mayClose ({ frames := 0, cells := 0, slots := 0, locals := 0 } : Room)).room s m ([.ref (qI 0), .int a1, .int a2] : List Value).toArray below meth c H locs 0 0 Q (F0 m 55 ls []) := by
    intro  H locs ls hw hP hD hS hl
    unfold wj_I_mayClose_55 at hw
    refine lv_iconst (v := (0 : Int32)) hx hb d_I_mayClose_55 (by decide) ?_
    exact hret (0 : Int32) () _ _ _ _ _ _ (by decide) hw hP hD hS (Nat.le_of_ble_eq_true rfl) (Nat.le_of_ble_eq_true rfl) d_I_mayClose_56
  unfold wp_I_mayClose at hw
  refine lv_aload_n hx hb d_I_mayClose_0 rfl (lv_at hl 0 rfl) ?_
  refine va_get (D := (dC, dI)) (ci := 0) (v := .ref (qI 2)) (C := "ReleaseRows$IncidentRows") (T := T_I) (N := 10) hx hb hts in_I hown hK hP 0 rfl rfl 1 (by decide) (hts _ k_103) (fun _ h9 => h9) rfl d_I_mayClose_1 ?_
  refine lv_iload_n hx hb d_I_mayClose_4 rfl (lv_at hl 1 rfl) ?_
  obtain ⟨h5, hw⟩ := hw
  refine va_zald hx hb hK hP 2 1 rfl rfl h5 d_I_mayClose_5 ?_
  refine lv_if_eq (tgt := 55) hx hb d_I_mayClose_6 (by decide) (fun c6 => ?_) (fun c6 => ?_)
  · have hw := hw.1 c6
    exact jn55 _ _ _ hw hP hD hS (lv_sub hl [] rfl)
  · have hw := hw.2 c6
    refine lv_aload_n hx hb d_I_mayClose_9 rfl (lv_at hl 0 rfl) ?_
    refine va_get (D := (dC, dI)) (ci := 0) (v := .ref (qI 3)) (C := "ReleaseRows$IncidentRows") (T := T_I) (N := 10) hx hb hts in_I hown hK hP 0 rfl rfl 2 (by decide) (hts _ k_105) (fun _ h9 => h9) rfl d_I_mayClose_10 ?_
    refine lv_iload_n hx hb d_I_mayClose_13 rfl (lv_at hl 1 rfl) ?_
    obtain ⟨h14, hw⟩ := hw
    refine va_zald hx hb hK hP 3 1 rfl rfl h14 d_I_mayClose_14 ?_
    refine lv_if_eq (tgt := 55) hx hb d_I_mayClose_15 (by decide) (fun c15 => ?_) (fun c15 => ?_)
    · have hw := hw.1 c15
      exact jn55 _ _ _ hw hP hD hS (lv_sub hl [] rfl)
    · have hw := hw.2 c15
      refine lv_aload_n hx hb d_I_mayClose_18 rfl (lv_at hl 0 rfl) ?_
      refine va_get (D := (dC, dI)) (ci := 0) (v := .ref (qI 5)) (C := "ReleaseRows$IncidentRows") (T := T_I) (N := 10) hx hb hts in_I hown hK hP 0 rfl rfl 4 (by decide) (hts _ k_109) (fun _ h9 => h9) rfl d_I_mayClose_19 ?_
      refine lv_iload_n hx hb d_I_mayClose_22 rfl (lv_at hl 1 rfl) ?_
      obtain ⟨h23, hw⟩ := hw
      refine va_iald hx hb hK hP 5 0 rfl rfl h23 d_I_mayClose_23 ?_
      refine lv_if_ne (tgt := 55) hx hb d_I_mayClose_24 (by decide) (fun c24 => ?_) (fun c24 => ?_)
      · have hw := hw.1 c24
        exact jn55 _ _ _ hw hP hD hS (lv_sub hl [] rfl)
      · have hw := hw.2 c24
        refine lv_aload_n hx hb d_I_mayClose_27 rfl (lv_at hl 0 rfl) ?_
        refine va_get (D := (dC, dI)) (ci := 0) (v := .ref (qI 4)) (C := "ReleaseRows$IncidentRows") (T := T_I) (N := 10) hx hb hts in_I hown hK hP 0 rfl rfl 3 (by decide) (hts _ k_107) (fun _ h9 => h9) rfl d_I_mayClose_28 ?_
        refine lv_iload_n hx hb d_I_mayClose_31 rfl (lv_at hl 1 rfl) ?_
        obtain ⟨h32, hw⟩ := hw
        refine va_iald hx hb hK hP 4 0 rfl rfl h32 d_I_mayClose_32 ?_
        refine lv_bipush (v := (7 : Int32)) hx hb d_I_mayClose_33 (by decide) ?_
        refine lv_iand hx hb d_I_mayClose_35 ?_
        refine lv_bipush (v := (7 : Int32)) hx hb d_I_mayClose_36 (by decide) ?_
        refine lv_icmp_ne (tgt := 55) hx hb d_I_mayClose_38 (by decide) (fun c38 => ?_) (fun c38 => ?_)
        · have hw := hw.1 c38
          exact jn55 _ _ _ hw hP hD hS (lv_sub hl [] rfl)
        · have hw := hw.2 c38
          refine lv_iload_n hx hb d_I_mayClose_41 rfl (lv_at hl 2 rfl) ?_
          refine lv_aload_n hx hb d_I_mayClose_42 rfl (lv_at hl 0 rfl) ?_
          refine va_get (D := (dC, dI)) (ci := 0) (v := .ref (qI 6)) (C := "ReleaseRows$IncidentRows") (T := T_I) (N := 10) hx hb hts in_I hown hK hP 0 rfl rfl 5 (by decide) (hts _ k_111) (fun _ h9 => h9) rfl d_I_mayClose_43 ?_
          refine lv_iload_n hx hb d_I_mayClose_46 rfl (lv_at hl 1 rfl) ?_
          obtain ⟨h47, hw⟩ := hw
          refine va_iald hx hb hK hP 6 0 rfl rfl h47 d_I_mayClose_47 ?_
          refine lv_icmp_lt (tgt := 55) hx hb d_I_mayClose_48 (by decide) (fun c48 => ?_) (fun c48 => ?_)
          · have hw := hw.1 c48
            exact jn55 _ _ _ hw hP hD hS (lv_sub hl [] rfl)
          · have hw := hw.2 c48
            refine lv_iconst (v := (1 : Int32)) hx hb d_I_mayClose_51 (by decide) ?_
            refine lv_goto (tgt := 56) hx hb d_I_mayClose_52 (by decide) ?_
            exact hret (1 : Int32) () _ _ _ _ _ _ (by decide) hw hP hD hS (Nat.le_of_ble_eq_true rfl) (Nat.le_of_ble_eq_true rfl) d_I_mayClose_56

def wj_I_isOpenPastWatch_33 (xI : St) (a1 : Int32) (a2 : Int32) (post : Int32 → Unit → Prop)  : Prop := post (0 : Int32) ()
def wp_I_isOpenPastWatch (xI : St) (a1 : Int32) (a2 : Int32) (post : Int32 → Unit → Prop) : Prop := vp_in a1 20 ∧ (((xI.1 1 a1.toNatClampNeg) = 0 → (wj_I_isOpenPastWatch_33 xI a1 a2 post )) ∧ (¬ (xI.1 1 a1.toNatClampNeg) = 0 → (vp_in a1 20 ∧ (((xI.1 5 a1.toNatClampNeg) = (-1 : Int32) → (wj_I_isOpenPastWatch_33 xI a1 a2 post )) ∧ (¬ (xI.1 5 a1.toNatClampNeg) = (-1 : Int32) → (vp_in a1 20 ∧ ((a2 < (xI.1 5 a1.toNatClampNeg) → (wj_I_isOpenPastWatch_33 xI a1 a2 post )) ∧ (¬ a2 < (xI.1 5 a1.toNatClampNeg) → (post (1 : Int32) ())))))))))
set_option maxHeartbeats 4000000 in
set_option maxRecDepth 100000 in
theorem c_I_isOpenPastWatch (l : Launch) (dC : Nat → ClassId) (dI : Nat → Nat → Nat) (cI cZ cL : ClassId) (qI : Nat → Nat) (sz : Nat) (xI : St) (a1 : Int32) (a2 : Int32) (post : Int32 → Unit → Prop) (hw : wp_I_isOpenPastWatch xI a1 a2 post) : Met l y_I_isOpenPastWatch w_I_isOpenPastWatch ({ frames := 0, cells := 0, slots := 0, locals := 0 } : Room) (va_Pc [.ref (qI 0), .int a1, .int a2] (xP (dC, dI) vwCl [(cI, .int), (cZ, .boolean), (cL, .long)] (wd_I qI cI cZ cL xI) sz)) (va_Qi post (xB (dC, dI) vwCl [(cI, .int), (cZ, .boolean), (cL, .long)] (va_A (wd_I qI cI cZ cL xI) sz) (fun _ => (wd_I qI cI cZ cL xI))) (va_A (wd_I qI cI cZ cL xI) sz)) 0 0 (va_A (wd_I qI cI cZ cL xI) sz) := by
  refine x_ofI (cc := b_I_isOpenPastWatch) (maxL := 3) (by decide) rfl (Nat.le_of_ble_eq_true rfl) (fun p e s m below meth c A Q hx hb hml hts hown hK hA hP hD hS hret ls hl => ?_)
  have hl : lv_has ls 3 [(0, .ref (qI 0)), (1, .int a1), (2, .int a2)] := hl
  have jn33 : ∀ (H : Heap) (locs : List Loc) (ls : Array Slot), wj_I_isOpenPastWatch_33 xI a1 a2 post  → va_P (dC, dI) vwCl (wd_I qI cI cZ cL xI) H → va_D A (wd_I qI cI cZ cL xI) → va_S A s.heap H locs → lv_has ls 3 [] → W p l e (headSpec w_I_isOpenPastWatch ({ frames := 0, cells := 0, slots := 0, locals := 0 } : Room)).room s m ([.ref (qI 0), .int a1, .int a2] : List Value).toArray below meth c H locs 0 0 Q (F0 m 33 ls []) := by
    intro  H locs ls hw hP hD hS hl
    unfold wj_I_isOpenPastWatch_33 at hw
    refine lv_iconst (v := (0 : Int32)) hx hb d_I_isOpenPastWatch_33 (by decide) ?_
    exact hret (0 : Int32) () _ _ _ _ _ _ (by decide) hw hP hD hS (Nat.le_of_ble_eq_true rfl) (Nat.le_of_ble_eq_true rfl) d_I_isOpenPastWatch_34
  unfold wp_I_isOpenPastWatch at hw
  refine lv_aload_n hx hb d_I_isOpenPastWatch_0 rfl (lv_at hl 0 rfl) ?_
  refine va_get (D := (dC, dI)) (ci := 0) (v := .ref (qI 2)) (C := "ReleaseRows$IncidentRows") (T := T_I) (N := 10) hx hb hts in_I hown hK hP 0 rfl rfl 1 (by decide) (hts _ k_103) (fun _ h9 => h9) rfl d_I_isOpenPastWatch_1 ?_
  refine lv_iload_n hx hb d_I_isOpenPastWatch_4 rfl (lv_at hl 1 rfl) ?_
  obtain ⟨h5, hw⟩ := hw
  refine va_zald hx hb hK hP 2 1 rfl rfl h5 d_I_isOpenPastWatch_5 ?_
  refine lv_if_eq (tgt := 33) hx hb d_I_isOpenPastWatch_6 (by decide) (fun c6 => ?_) (fun c6 => ?_)
  · have hw := hw.1 c6
    exact jn33 _ _ _ hw hP hD hS (lv_sub hl [] rfl)
  · have hw := hw.2 c6
    refine lv_aload_n hx hb d_I_isOpenPastWatch_9 rfl (lv_at hl 0 rfl) ?_
    refine va_get (D := (dC, dI)) (ci := 0) (v := .ref (qI 6)) (C := "ReleaseRows$IncidentRows") (T := T_I) (N := 10) hx hb hts in_I hown hK hP 0 rfl rfl 5 (by decide) (hts _ k_111) (fun _ h9 => h9) rfl d_I_isOpenPastWatch_10 ?_
    refine lv_iload_n hx hb d_I_isOpenPastWatch_13 rfl (lv_at hl 1 rfl) ?_
    obtain ⟨h14, hw⟩ := hw
    refine va_iald hx hb hK hP 6 0 rfl rfl h14 d_I_isOpenPastWatch_14 ?_
    refine lv_iconst (v := (-1 : Int32)) hx hb d_I_isOpenPastWatch_15 (by decide) ?_
    refine lv_icmp_eq (tgt := 33) hx hb d_I_isOpenPastWatch_16 (by decide) (fun c16 => ?_) (fun c16 => ?_)
    · have hw := hw.1 c16
      exact jn33 _ _ _ hw hP hD hS (lv_sub hl [] rfl)
    · have hw := hw.2 c16
      refine lv_iload_n hx hb d_I_isOpenPastWatch_19 rfl (lv_at hl 2 rfl) ?_
      refine lv_aload_n hx hb d_I_isOpenPastWatch_20 rfl (lv_at hl 0 rfl) ?_
      refine va_get (D := (dC, dI)) (ci := 0) (v := .ref (qI 6)) (C := "ReleaseRows$IncidentRows") (T := T_I) (N := 10) hx hb hts in_I hown hK hP 0 rfl rfl 5 (by decide) (hts _ k_111) (fun _ h9 => h9) rfl d_I_isOpenPastWatch_21 ?_
      refine lv_iload_n hx hb d_I_isOpenPastWatch_24 rfl (lv_at hl 1 rfl) ?_
      obtain ⟨h25, hw⟩ := hw
      refine va_iald hx hb hK hP 6 0 rfl rfl h25 d_I_isOpenPastWatch_25 ?_
      refine lv_icmp_lt (tgt := 33) hx hb d_I_isOpenPastWatch_26 (by decide) (fun c26 => ?_) (fun c26 => ?_)
      · have hw := hw.1 c26
        exact jn33 _ _ _ hw hP hD hS (lv_sub hl [] rfl)
      · have hw := hw.2 c26
        refine lv_iconst (v := (1 : Int32)) hx hb d_I_isOpenPastWatch_29 (by decide) ?_
        refine lv_goto (tgt := 34) hx hb d_I_isOpenPastWatch_30 (by decide) ?_
        exact hret (1 : Int32) () _ _ _ _ _ _ (by decide) hw hP hD hS (Nat.le_of_ble_eq_true rfl) (Nat.le_of_ble_eq_true rfl) d_I_isOpenPastWatch_34

def wj_I_countOpen_24 (xI : St) (post : Int32 → Unit → Prop) (rec4 : Int32 → Int32 → Prop) (v1_ : Int32) (v2_ : Int32) : Prop := ∀ v2_24 : Int32, v2_24 = v2_ + 1 → (rec4 v1_ v2_24)
def wl_I_countOpen_4 (xI : St) (post : Int32 → Unit → Prop) : Nat → Int32 → Int32 → Prop
  | 0 => fun _ _ => False
  | n9 + 1 => fun v1_ v2_ => ((xI.2 9) ≤ v2_ → (post v1_ ())) ∧ (¬ (xI.2 9) ≤ v2_ → (vp_in v2_ 20 ∧ (((xI.1 1 v2_.toNatClampNeg) = 0 → (wj_I_countOpen_24 xI post (wl_I_countOpen_4 xI post n9) v1_ v2_)) ∧ (¬ (xI.1 1 v2_.toNatClampNeg) = 0 → (∀ v1_21 : Int32, v1_21 = v1_ + 1 → (wj_I_countOpen_24 xI post (wl_I_countOpen_4 xI post n9) v1_21 v2_))))))
def wp_I_countOpen (xI : St) (post : Int32 → Unit → Prop) : Prop := ∃ k9 : Nat, wl_I_countOpen_4 xI post k9 (0 : Int32) (0 : Int32)
set_option maxHeartbeats 4000000 in
set_option maxRecDepth 100000 in
theorem c_I_countOpen (l : Launch) (dC : Nat → ClassId) (dI : Nat → Nat → Nat) (cI cZ cL : ClassId) (qI : Nat → Nat) (sz : Nat) (xI : St) (post : Int32 → Unit → Prop) (hw : wp_I_countOpen xI post) : Met l y_I_countOpen w_I_countOpen ({ frames := 0, cells := 0, slots := 0, locals := 0 } : Room) (va_Pc [.ref (qI 0)] (xP (dC, dI) vwCl [(cI, .int), (cZ, .boolean), (cL, .long)] (wd_I qI cI cZ cL xI) sz)) (va_Qi post (xB (dC, dI) vwCl [(cI, .int), (cZ, .boolean), (cL, .long)] (va_A (wd_I qI cI cZ cL xI) sz) (fun _ => (wd_I qI cI cZ cL xI))) (va_A (wd_I qI cI cZ cL xI) sz)) 0 0 (va_A (wd_I qI cI cZ cL xI) sz) := by
  refine x_ofI (cc := b_I_countOpen) (maxL := 3) (by decide) rfl (Nat.le_of_ble_eq_true rfl) (fun p e s m below meth c A Q hx hb hml hts hown hK hA hP hD hS hret ls hl => ?_)
  have hl : lv_has ls 3 [(0, .ref (qI 0))] := hl
  have lp4 : ∀ (n4 : Nat) (v1_ : Int32) (v2_ : Int32) (H : Heap) (locs : List Loc) (ls : Array Slot), wl_I_countOpen_4 xI post n4 v1_ v2_ → va_P (dC, dI) vwCl (wd_I qI cI cZ cL xI) H → va_D A (wd_I qI cI cZ cL xI) → va_S A s.heap H locs → lv_has ls 3 [(0, .ref (qI 0)), (1, .int v1_), (2, .int v2_)] → W p l e (headSpec w_I_countOpen ({ frames := 0, cells := 0, slots := 0, locals := 0 } : Room)).room s m ([.ref (qI 0)] : List Value).toArray below meth c H locs 0 0 Q (F0 m 4 ls []) := by
    intro n4
    induction n4 with
    | zero => intro v1_ v2_ H locs ls hw; exact hw.elim
    | succ n4 ih4 =>
      have jn24 : ∀ (v1_ : Int32) (v2_ : Int32) (H : Heap) (locs : List Loc) (ls : Array Slot), wj_I_countOpen_24 xI post (wl_I_countOpen_4 xI post n4) v1_ v2_ → va_P (dC, dI) vwCl (wd_I qI cI cZ cL xI) H → va_D A (wd_I qI cI cZ cL xI) → va_S A s.heap H locs → lv_has ls 3 [(0, .ref (qI 0)), (1, .int v1_), (2, .int v2_)] → W p l e (headSpec w_I_countOpen ({ frames := 0, cells := 0, slots := 0, locals := 0 } : Room)).room s m ([.ref (qI 0)] : List Value).toArray below meth c H locs 0 0 Q (F0 m 24 ls []) := by
        intro v1_ v2_ H locs ls hw hP hD hS hl
        unfold wj_I_countOpen_24 at hw
        obtain ⟨v2_24, ev2_24⟩ : ∃ y : Int32, y = v2_ + 1 := ⟨_, rfl⟩
        have hw := hw v2_24 ev2_24
        refine lv_iinc (v := v2_24) (lv' := [(2, .int v2_24), (0, .ref (qI 0)), (1, .int v1_)]) hx hb d_I_countOpen_24 hl (k := 2) rfl (by rw [ev2_24]; rfl) (by decide) rfl (fun ls hl => ?_)
        refine lv_goto (tgt := 4) hx hb d_I_countOpen_27 (by decide) ?_
        exact ih4 v1_ v2_24 _ _ _ hw hP hD hS (lv_sub hl [1, 2, 0] rfl)
      intro v1_ v2_ H locs ls hw hP hD hS hl
      unfold wl_I_countOpen_4 at hw
      refine lv_iload_n hx hb d_I_countOpen_4 rfl (lv_at hl 2 rfl) ?_
      refine lv_aload_n hx hb d_I_countOpen_5 rfl (lv_at hl 0 rfl) ?_
      refine va_get (D := (dC, dI)) (ci := 0) (v := .int (xI.2 9)) (C := "ReleaseRows$IncidentRows") (T := T_I) (N := 10) hx hb hts in_I hown hK hP 0 rfl rfl 9 (by decide) (hts _ k_119) (fun _ h9 => h9) rfl d_I_countOpen_6 ?_
      refine lv_icmp_ge (tgt := 30) hx hb d_I_countOpen_9 (by decide) (fun c9 => ?_) (fun c9 => ?_)
      · have hw := hw.1 c9
        refine lv_iload_n hx hb d_I_countOpen_30 rfl (lv_at hl 1 rfl) ?_
        exact hret v1_ () _ _ _ _ _ _ rfl hw hP hD hS (Nat.le_of_ble_eq_true rfl) (Nat.le_of_ble_eq_true rfl) d_I_countOpen_31
      · have hw := hw.2 c9
        refine lv_aload_n hx hb d_I_countOpen_12 rfl (lv_at hl 0 rfl) ?_
        refine va_get (D := (dC, dI)) (ci := 0) (v := .ref (qI 2)) (C := "ReleaseRows$IncidentRows") (T := T_I) (N := 10) hx hb hts in_I hown hK hP 0 rfl rfl 1 (by decide) (hts _ k_103) (fun _ h9 => h9) rfl d_I_countOpen_13 ?_
        refine lv_iload_n hx hb d_I_countOpen_16 rfl (lv_at hl 2 rfl) ?_
        obtain ⟨h17, hw⟩ := hw
        refine va_zald hx hb hK hP 2 1 rfl rfl h17 d_I_countOpen_17 ?_
        refine lv_if_eq (tgt := 24) hx hb d_I_countOpen_18 (by decide) (fun c18 => ?_) (fun c18 => ?_)
        · have hw := hw.1 c18
          exact jn24 v1_ v2_ _ _ _ hw hP hD hS hl
        · have hw := hw.2 c18
          obtain ⟨v1_21, ev1_21⟩ : ∃ y : Int32, y = v1_ + 1 := ⟨_, rfl⟩
          have hw := hw v1_21 ev1_21
          refine lv_iinc (v := v1_21) (lv' := [(1, .int v1_21), (0, .ref (qI 0)), (2, .int v2_)]) hx hb d_I_countOpen_21 hl (k := 1) rfl (by rw [ev1_21]; rfl) (by decide) rfl (fun ls hl => ?_)
          exact jn24 v1_21 v2_ _ _ _ hw hP hD hS (lv_sub hl [1, 0, 2] rfl)
  unfold wp_I_countOpen at hw
  refine lv_iconst (v := (0 : Int32)) hx hb d_I_countOpen_0 (by decide) ?_
  refine lv_istore_n (lv' := [(1, .int (0 : Int32)), (0, .ref (qI 0))]) hx hb d_I_countOpen_1 rfl hl (by decide) rfl (fun ls hl => ?_)
  refine lv_iconst (v := (0 : Int32)) hx hb d_I_countOpen_2 (by decide) ?_
  refine lv_istore_n (lv' := [(2, .int (0 : Int32)), (1, .int (0 : Int32)), (0, .ref (qI 0))]) hx hb d_I_countOpen_3 rfl hl (by decide) rfl (fun ls hl => ?_)
  obtain ⟨n9, hw⟩ := hw
  exact lp4 n9 (0 : Int32) (0 : Int32) _ _ _ hw hP hD hS (lv_sub hl [2, 1, 0] rfl)

def wp_W_addLast (xW : St) (a1 : Int32) (post : St → Prop) : Prop := vp_in (xW.2 1) 30 ∧ (post (sF (sA xW 0 (xW.2 1).toNatClampNeg a1) 1 (((sA xW 0 (xW.2 1).toNatClampNeg a1).2 1) + (1 : Int32))))
set_option maxHeartbeats 4000000 in
set_option maxRecDepth 100000 in
theorem c_W_addLast (l : Launch) (dC : Nat → ClassId) (dI : Nat → Nat → Nat) (cI cZ cL : ClassId) (qW : Nat → Nat) (sz : Nat) (xW : St) (a1 : Int32) (post : St → Prop) (hw : wp_W_addLast xW a1 post) : Met l y_W_addLast w_W_addLast ({ frames := 0, cells := 0, slots := 0, locals := 0 } : Room) (va_Pc [.ref (qW 0), .int a1] (xP (dC, dI) vwCl [(cI, .int), (cZ, .boolean), (cL, .long)] (wd_W qW cI cZ cL xW) sz)) (va_Qv post (xB (dC, dI) vwCl [(cI, .int), (cZ, .boolean), (cL, .long)] (va_A (wd_W qW cI cZ cL xW) sz) (fun u => (wd_W qW cI cZ cL u))) (va_A (wd_W qW cI cZ cL xW) sz)) 0 0 (va_A (wd_W qW cI cZ cL xW) sz) := by
  refine x_ofV (cc := b_W_addLast) (maxL := 2) (by decide) rfl (Nat.le_of_ble_eq_true rfl) (fun p e s m below meth c A Q hx hb hml hts hown hin hK hA hP hD hS hret ls hl => ?_)
  have hl : lv_has ls 2 [(0, .ref (qW 0)), (1, .int a1)] := hl
  unfold wp_W_addLast at hw
  refine lv_aload_n hx hb d_W_addLast_0 rfl (lv_at hl 0 rfl) ?_
  refine va_get (D := (dC, dI)) (ci := 2) (v := .ref (qW 1)) (C := "ReleaseRows$WaitingRow") (T := T_W) (N := 2) hx hb hts in_W hown hK hP 0 rfl rfl 0 (by decide) (hts _ k_149) (fun _ h9 => h9) rfl d_W_addLast_1 ?_
  refine lv_aload_n hx hb d_W_addLast_4 rfl (lv_at hl 0 rfl) ?_
  refine va_get (D := (dC, dI)) (ci := 2) (v := .int (xW.2 1)) (C := "ReleaseRows$WaitingRow") (T := T_W) (N := 2) hx hb hts in_W hown hK hP 0 rfl rfl 1 (by decide) (hts _ k_150) (fun _ h9 => h9) rfl d_W_addLast_5 ?_
  refine lv_iload_n hx hb d_W_addLast_8 rfl (lv_at hl 1 rfl) ?_
  obtain ⟨h9, hw⟩ := hw
  refine va_iast hx hb hK hP hD hS 1 0 rfl rfl h9 d_W_addLast_9 (fun H locs hP hD hS => ?_)
  have hP : va_P (dC, dI) vwCl (wd_W qW cI cZ cL (sA xW 0 (xW.2 1).toNatClampNeg a1)) H := hP
  have hD : va_D A (wd_W qW cI cZ cL (sA xW 0 (xW.2 1).toNatClampNeg a1)) := hD
  refine lv_aload_n hx hb d_W_addLast_10 rfl (lv_at hl 0 rfl) ?_
  refine lv_dup hx hb d_W_addLast_11 rfl ?_
  refine va_get (D := (dC, dI)) (ci := 2) (v := .int ((sA xW 0 (xW.2 1).toNatClampNeg a1).2 1)) (C := "ReleaseRows$WaitingRow") (T := T_W) (N := 2) hx hb hts in_W hown hK hP 0 rfl rfl 1 (by decide) (hts _ k_150) (fun _ h9 => h9) rfl d_W_addLast_12 ?_
  refine lv_iconst (v := (1 : Int32)) hx hb d_W_addLast_15 (by decide) ?_
  refine lv_iadd hx hb d_W_addLast_16 ?_
  refine va_put (D := (dC, dI)) (ci := 2) (v := .int (((sA xW 0 (xW.2 1).toNatClampNeg a1).2 1) + (1 : Int32))) (ty := .int) (C := "ReleaseRows$WaitingRow") (T := T_W) (N := 2) hx hb hts in_W ty_W tyok_W nm_W hown hK hP hD hS 0 rfl rfl 1 (by decide) (hts _ k_150) (fun _ h9 => h9) rfl (by decide +kernel) rfl rfl (Nat.le_of_ble_eq_true rfl) d_W_addLast_17 (fun H locs hP hD hS => ?_)
  have hP : va_P (dC, dI) vwCl (wd_W qW cI cZ cL (sF (sA xW 0 (xW.2 1).toNatClampNeg a1) 1 (((sA xW 0 (xW.2 1).toNatClampNeg a1).2 1) + (1 : Int32)))) H := hP
  have hD : va_D A (wd_W qW cI cZ cL (sF (sA xW 0 (xW.2 1).toNatClampNeg a1) 1 (((sA xW 0 (xW.2 1).toNatClampNeg a1).2 1) + (1 : Int32)))) := hD
  exact hret (sF (sA xW 0 (xW.2 1).toNatClampNeg a1) 1 (((sA xW 0 (xW.2 1).toNatClampNeg a1).2 1) + (1 : Int32))) _ _ _ _ _ _ hw hP hD hS (Nat.le_of_ble_eq_true rfl) (Nat.le_of_ble_eq_true rfl) d_W_addLast_20

def wp_W_takeFirst (xW : St) (post : Int32 → St → Prop) : Prop := vp_in (0 : Int32) 30 ∧ (∀ v1_6 : Int32, v1_6 = (xW.1 0 (0 : Int32).toNatClampNeg) → ((¬ (1 : Int32) < 0 ∧ ¬ (0 : Int32) < 0 ∧ ¬ ((sF xW 1 ((xW.2 1) - (1 : Int32))).2 1) < 0 ∧ (1 : Int32).toNatClampNeg + ((sF xW 1 ((xW.2 1) - (1 : Int32))).2 1).toNatClampNeg ≤ 30 ∧ (0 : Int32).toNatClampNeg + ((sF xW 1 ((xW.2 1) - (1 : Int32))).2 1).toNatClampNeg ≤ 30) ∧ (post v1_6 (sR (sF xW 1 ((xW.2 1) - (1 : Int32))) 0 (va_cpy (sF xW 1 ((xW.2 1) - (1 : Int32))).1 0 (sF xW 1 ((xW.2 1) - (1 : Int32))).1 0 (1 : Int32).toNatClampNeg (0 : Int32).toNatClampNeg ((sF xW 1 ((xW.2 1) - (1 : Int32))).2 1).toNatClampNeg)))))
set_option maxHeartbeats 4000000 in
set_option maxRecDepth 100000 in
theorem c_W_takeFirst (l : Launch) (dC : Nat → ClassId) (dI : Nat → Nat → Nat) (cI cZ cL : ClassId) (qW : Nat → Nat) (sz : Nat) (xW : St) (post : Int32 → St → Prop) (hw : wp_W_takeFirst xW post) : Met l y_W_takeFirst w_W_takeFirst ({ frames := 1, cells := 0, slots := 0, locals := 60 } : Room) (va_Pc [.ref (qW 0)] (xP (dC, dI) vwCl [(cI, .int), (cZ, .boolean), (cL, .long)] (wd_W qW cI cZ cL xW) sz)) (va_Qi post (xB (dC, dI) vwCl [(cI, .int), (cZ, .boolean), (cL, .long)] (va_A (wd_W qW cI cZ cL xW) sz) (fun u => (wd_W qW cI cZ cL u))) (va_A (wd_W qW cI cZ cL xW) sz)) 0 0 (va_A (wd_W qW cI cZ cL xW) sz) := by
  refine x_ofI (cc := b_W_takeFirst) (maxL := 2) (by decide) rfl (Nat.le_of_ble_eq_true rfl) (fun p e s m below meth c A Q hx hb hml hts hown hK hA hP hD hS hret ls hl => ?_)
  have hl : lv_has ls 2 [(0, .ref (qW 0))] := hl
  unfold wp_W_takeFirst at hw
  refine lv_aload_n hx hb d_W_takeFirst_0 rfl (lv_at hl 0 rfl) ?_
  refine va_get (D := (dC, dI)) (ci := 2) (v := .ref (qW 1)) (C := "ReleaseRows$WaitingRow") (T := T_W) (N := 2) hx hb hts in_W hown hK hP 0 rfl rfl 0 (by decide) (hts _ k_149) (fun _ h9 => h9) rfl d_W_takeFirst_1 ?_
  refine lv_iconst (v := (0 : Int32)) hx hb d_W_takeFirst_4 (by decide) ?_
  obtain ⟨h5, hw⟩ := hw
  refine va_iald hx hb hK hP 1 0 rfl rfl h5 d_W_takeFirst_5 ?_
  refine lv_topi (fun v1_6 ev1_6 => ?_)
  have hw := hw v1_6 ev1_6
  refine lv_istore_n (lv' := [(1, .int v1_6), (0, .ref (qW 0))]) hx hb d_W_takeFirst_6 rfl hl (by decide) rfl (fun ls hl => ?_)
  refine lv_aload_n hx hb d_W_takeFirst_7 rfl (lv_at hl 1 rfl) ?_
  refine lv_dup hx hb d_W_takeFirst_8 rfl ?_
  refine va_get (D := (dC, dI)) (ci := 2) (v := .int (xW.2 1)) (C := "ReleaseRows$WaitingRow") (T := T_W) (N := 2) hx hb hts in_W hown hK hP 0 rfl rfl 1 (by decide) (hts _ k_150) (fun _ h9 => h9) rfl d_W_takeFirst_9 ?_
  refine lv_iconst (v := (1 : Int32)) hx hb d_W_takeFirst_12 (by decide) ?_
  refine lv_isub hx hb d_W_takeFirst_13 ?_
  refine va_put (D := (dC, dI)) (ci := 2) (v := .int ((xW.2 1) - (1 : Int32))) (ty := .int) (C := "ReleaseRows$WaitingRow") (T := T_W) (N := 2) hx hb hts in_W ty_W tyok_W nm_W hown hK hP hD hS 0 rfl rfl 1 (by decide) (hts _ k_150) (fun _ h9 => h9) rfl (by decide +kernel) rfl rfl (Nat.le_of_ble_eq_true rfl) d_W_takeFirst_14 (fun H locs hP hD hS => ?_)
  have hP : va_P (dC, dI) vwCl (wd_W qW cI cZ cL (sF xW 1 ((xW.2 1) - (1 : Int32)))) H := hP
  have hD : va_D A (wd_W qW cI cZ cL (sF xW 1 ((xW.2 1) - (1 : Int32)))) := hD
  refine lv_aload_n hx hb d_W_takeFirst_17 rfl (lv_at hl 1 rfl) ?_
  refine va_get (D := (dC, dI)) (ci := 2) (v := .ref (qW 1)) (C := "ReleaseRows$WaitingRow") (T := T_W) (N := 2) hx hb hts in_W hown hK hP 0 rfl rfl 0 (by decide) (hts _ k_149) (fun _ h9 => h9) rfl d_W_takeFirst_18 ?_
  refine lv_iconst (v := (1 : Int32)) hx hb d_W_takeFirst_21 (by decide) ?_
  refine lv_aload_n hx hb d_W_takeFirst_22 rfl (lv_at hl 1 rfl) ?_
  refine va_get (D := (dC, dI)) (ci := 2) (v := .ref (qW 1)) (C := "ReleaseRows$WaitingRow") (T := T_W) (N := 2) hx hb hts in_W hown hK hP 0 rfl rfl 0 (by decide) (hts _ k_149) (fun _ h9 => h9) rfl d_W_takeFirst_23 ?_
  refine lv_iconst (v := (0 : Int32)) hx hb d_W_takeFirst_26 (by decide) ?_
  refine lv_aload_n hx hb d_W_takeFirst_27 rfl (lv_at hl 1 rfl) ?_
  refine va_get (D := (dC, dI)) (ci := 2) (v := .int ((sF xW 1 ((xW.2 1) - (1 : Int32))).2 1)) (C := "ReleaseRows$WaitingRow") (T := T_W) (N := 2) hx hb hts in_W hown hK hP 0 rfl rfl 1 (by decide) (hts _ k_150) (fun _ h9 => h9) rfl d_W_takeFirst_28 ?_
  obtain ⟨⟨h311, h312, h313, h314, h315⟩, hw⟩ := hw
  refine va_copyi (sp := (1 : Int32)) (dp := (0 : Int32)) (n := ((sF xW 1 ((xW.2 1) - (1 : Int32))).2 1)) (ty := .int) hx hb (hml.trans hl.1.symm) hown (hts _ k_325) (hts _ k_327) (hts _ k_326) (hts _ k_36) hK hP hD hS 1 1 0 0 rfl rfl rfl rfl rfl h311 h312 h313 h314 h315 (fun _ _ => rfl) (Nat.le_of_ble_eq_true rfl) (Nat.le_of_ble_eq_true rfl) d_W_takeFirst_31 (fun H locs hP hD hS => ?_)
  have hP : va_P (dC, dI) vwCl (wd_W qW cI cZ cL (sR (sF xW 1 ((xW.2 1) - (1 : Int32))) 0 (va_cpy (sF xW 1 ((xW.2 1) - (1 : Int32))).1 0 (sF xW 1 ((xW.2 1) - (1 : Int32))).1 0 (1 : Int32).toNatClampNeg (0 : Int32).toNatClampNeg ((sF xW 1 ((xW.2 1) - (1 : Int32))).2 1).toNatClampNeg))) H := hP
  have hD : va_D A (wd_W qW cI cZ cL (sR (sF xW 1 ((xW.2 1) - (1 : Int32))) 0 (va_cpy (sF xW 1 ((xW.2 1) - (1 : Int32))).1 0 (sF xW 1 ((xW.2 1) - (1 : Int32))).1 0 (1 : Int32).toNatClampNeg (0 : Int32).toNatClampNeg ((sF xW 1 ((xW.2 1) - (1 : Int32))).2 1).toNatClampNeg))) := hD
  refine lv_iload_n hx hb d_W_takeFirst_34 rfl (lv_at hl 0 rfl) ?_
  exact hret v1_6 (sR (sF xW 1 ((xW.2 1) - (1 : Int32))) 0 (va_cpy (sF xW 1 ((xW.2 1) - (1 : Int32))).1 0 (sF xW 1 ((xW.2 1) - (1 : Int32))).1 0 (1 : Int32).toNatClampNeg (0 : Int32).toNatClampNeg ((sF xW 1 ((xW.2 1) - (1 : Int32))).2 1).toNatClampNeg)) _ _ _ _ _ _ rfl hw hP hD hS (Nat.le_of_ble_eq_true rfl) (Nat.le_of_ble_eq_true rfl) d_W_takeFirst_35

def wj_W_countFor_25 (xW : St) (a1 : Int32) (post : Int32 → Unit → Prop) (rec4 : Int32 → Int32 → Prop) (v2_ : Int32) (v3_ : Int32) : Prop := ∀ v3_25 : Int32, v3_25 = v3_ + 1 → (rec4 v2_ v3_25)
def wl_W_countFor_4 (xW : St) (a1 : Int32) (post : Int32 → Unit → Prop) : Nat → Int32 → Int32 → Prop
  | 0 => fun _ _ => False
  | n9 + 1 => fun v2_ v3_ => ((xW.2 1) ≤ v3_ → (post v2_ ())) ∧ (¬ (xW.2 1) ≤ v3_ → (vp_in v3_ 30 ∧ ((¬ (xW.1 0 v3_.toNatClampNeg) = a1 → (wj_W_countFor_25 xW a1 post (wl_W_countFor_4 xW a1 post n9) v2_ v3_)) ∧ ((xW.1 0 v3_.toNatClampNeg) = a1 → (∀ v2_22 : Int32, v2_22 = v2_ + 1 → (wj_W_countFor_25 xW a1 post (wl_W_countFor_4 xW a1 post n9) v2_22 v3_))))))
def wp_W_countFor (xW : St) (a1 : Int32) (post : Int32 → Unit → Prop) : Prop := ∃ k9 : Nat, wl_W_countFor_4 xW a1 post k9 (0 : Int32) (0 : Int32)
set_option maxHeartbeats 4000000 in
set_option maxRecDepth 100000 in
theorem c_W_countFor (l : Launch) (dC : Nat → ClassId) (dI : Nat → Nat → Nat) (cI cZ cL : ClassId) (qW : Nat → Nat) (sz : Nat) (xW : St) (a1 : Int32) (post : Int32 → Unit → Prop) (hw : wp_W_countFor xW a1 post) : Met l y_W_countFor w_W_countFor ({ frames := 0, cells := 0, slots := 0, locals := 0 } : Room) (va_Pc [.ref (qW 0), .int a1] (xP (dC, dI) vwCl [(cI, .int), (cZ, .boolean), (cL, .long)] (wd_W qW cI cZ cL xW) sz)) (va_Qi post (xB (dC, dI) vwCl [(cI, .int), (cZ, .boolean), (cL, .long)] (va_A (wd_W qW cI cZ cL xW) sz) (fun _ => (wd_W qW cI cZ cL xW))) (va_A (wd_W qW cI cZ cL xW) sz)) 0 0 (va_A (wd_W qW cI cZ cL xW) sz) := by
  refine x_ofI (cc := b_W_countFor) (maxL := 4) (by decide) rfl (Nat.le_of_ble_eq_true rfl) (fun p e s m below meth c A Q hx hb hml hts hown hK hA hP hD hS hret ls hl => ?_)
  have hl : lv_has ls 4 [(0, .ref (qW 0)), (1, .int a1)] := hl
  have lp4 : ∀ (n4 : Nat) (v2_ : Int32) (v3_ : Int32) (H : Heap) (locs : List Loc) (ls : Array Slot), wl_W_countFor_4 xW a1 post n4 v2_ v3_ → va_P (dC, dI) vwCl (wd_W qW cI cZ cL xW) H → va_D A (wd_W qW cI cZ cL xW) → va_S A s.heap H locs → lv_has ls 4 [(0, .ref (qW 0)), (1, .int a1), (2, .int v2_), (3, .int v3_)] → W p l e (headSpec w_W_countFor ({ frames := 0, cells := 0, slots := 0, locals := 0 } : Room)).room s m ([.ref (qW 0), .int a1] : List Value).toArray below meth c H locs 0 0 Q (F0 m 4 ls []) := by
    intro n4
    induction n4 with
    | zero => intro v2_ v3_ H locs ls hw; exact hw.elim
    | succ n4 ih4 =>
      have jn25 : ∀ (v2_ : Int32) (v3_ : Int32) (H : Heap) (locs : List Loc) (ls : Array Slot), wj_W_countFor_25 xW a1 post (wl_W_countFor_4 xW a1 post n4) v2_ v3_ → va_P (dC, dI) vwCl (wd_W qW cI cZ cL xW) H → va_D A (wd_W qW cI cZ cL xW) → va_S A s.heap H locs → lv_has ls 4 [(0, .ref (qW 0)), (1, .int a1), (2, .int v2_), (3, .int v3_)] → W p l e (headSpec w_W_countFor ({ frames := 0, cells := 0, slots := 0, locals := 0 } : Room)).room s m ([.ref (qW 0), .int a1] : List Value).toArray below meth c H locs 0 0 Q (F0 m 25 ls []) := by
        intro v2_ v3_ H locs ls hw hP hD hS hl
        unfold wj_W_countFor_25 at hw
        obtain ⟨v3_25, ev3_25⟩ : ∃ y : Int32, y = v3_ + 1 := ⟨_, rfl⟩
        have hw := hw v3_25 ev3_25
        refine lv_iinc (v := v3_25) (lv' := [(3, .int v3_25), (0, .ref (qW 0)), (1, .int a1), (2, .int v2_)]) hx hb d_W_countFor_25 hl (k := 3) rfl (by rw [ev3_25]; rfl) (by decide) rfl (fun ls hl => ?_)
        refine lv_goto (tgt := 4) hx hb d_W_countFor_28 (by decide) ?_
        exact ih4 v2_ v3_25 _ _ _ hw hP hD hS (lv_sub hl [1, 2, 3, 0] rfl)
      intro v2_ v3_ H locs ls hw hP hD hS hl
      unfold wl_W_countFor_4 at hw
      refine lv_iload_n hx hb d_W_countFor_4 rfl (lv_at hl 3 rfl) ?_
      refine lv_aload_n hx hb d_W_countFor_5 rfl (lv_at hl 0 rfl) ?_
      refine va_get (D := (dC, dI)) (ci := 2) (v := .int (xW.2 1)) (C := "ReleaseRows$WaitingRow") (T := T_W) (N := 2) hx hb hts in_W hown hK hP 0 rfl rfl 1 (by decide) (hts _ k_150) (fun _ h9 => h9) rfl d_W_countFor_6 ?_
      refine lv_icmp_ge (tgt := 31) hx hb d_W_countFor_9 (by decide) (fun c9 => ?_) (fun c9 => ?_)
      · have hw := hw.1 c9
        refine lv_iload_n hx hb d_W_countFor_31 rfl (lv_at hl 2 rfl) ?_
        exact hret v2_ () _ _ _ _ _ _ rfl hw hP hD hS (Nat.le_of_ble_eq_true rfl) (Nat.le_of_ble_eq_true rfl) d_W_countFor_32
      · have hw := hw.2 c9
        refine lv_aload_n hx hb d_W_countFor_12 rfl (lv_at hl 0 rfl) ?_
        refine va_get (D := (dC, dI)) (ci := 2) (v := .ref (qW 1)) (C := "ReleaseRows$WaitingRow") (T := T_W) (N := 2) hx hb hts in_W hown hK hP 0 rfl rfl 0 (by decide) (hts _ k_149) (fun _ h9 => h9) rfl d_W_countFor_13 ?_
        refine lv_iload_n hx hb d_W_countFor_16 rfl (lv_at hl 3 rfl) ?_
        obtain ⟨h17, hw⟩ := hw
        refine va_iald hx hb hK hP 1 0 rfl rfl h17 d_W_countFor_17 ?_
        refine lv_iload_n hx hb d_W_countFor_18 rfl (lv_at hl 1 rfl) ?_
        refine lv_icmp_ne (tgt := 25) hx hb d_W_countFor_19 (by decide) (fun c19 => ?_) (fun c19 => ?_)
        · have hw := hw.1 c19
          exact jn25 v2_ v3_ _ _ _ hw hP hD hS hl
        · have hw := hw.2 c19
          obtain ⟨v2_22, ev2_22⟩ : ∃ y : Int32, y = v2_ + 1 := ⟨_, rfl⟩
          have hw := hw v2_22 ev2_22
          refine lv_iinc (v := v2_22) (lv' := [(2, .int v2_22), (0, .ref (qW 0)), (1, .int a1), (3, .int v3_)]) hx hb d_W_countFor_22 hl (k := 2) rfl (by rw [ev2_22]; rfl) (by decide) rfl (fun ls hl => ?_)
          exact jn25 v2_22 v3_ _ _ _ hw hP hD hS (lv_sub hl [1, 2, 0, 3] rfl)
  unfold wp_W_countFor at hw
  refine lv_iconst (v := (0 : Int32)) hx hb d_W_countFor_0 (by decide) ?_
  refine lv_istore_n (lv' := [(2, .int (0 : Int32)), (0, .ref (qW 0)), (1, .int a1)]) hx hb d_W_countFor_1 rfl hl (by decide) rfl (fun ls hl => ?_)
  refine lv_iconst (v := (0 : Int32)) hx hb d_W_countFor_2 (by decide) ?_
  refine lv_istore_n (lv' := [(3, .int (0 : Int32)), (2, .int (0 : Int32)), (0, .ref (qW 0)), (1, .int a1)]) hx hb d_W_countFor_3 rfl hl (by decide) rfl (fun ls hl => ?_)
  obtain ⟨n9, hw⟩ := hw
  exact lp4 n9 (0 : Int32) (0 : Int32) _ _ _ hw hP hD hS (lv_sub hl [2, 3, 1, 0] rfl)
end
section
set_option maxHeartbeats 4000000 in
set_option maxRecDepth 100000 in
theorem c_U_init (l : Launch) (dC : Nat → ClassId) (dI : Nat → Nat → Nat) (cI cZ cL : ClassId) (h0 sz : Nat) : Met l y_U_init w_U_init ({ frames := 1, cells := 10, slots := 360, locals := 12 } : Room) (va_Pc [.ref h0] (xP (dC, dI) vwCl [(cI, .int), (cZ, .boolean), (cL, .long)] [(h0, .inr (1, [.null, .null, .null, .null, .null, .null, .null, .null, .null, .null, .int (0 : Int32)]))] sz)) (va_Qv (fun q : Nat → Nat => q 0 = h0) (xB (dC, dI) vwCl [(cI, .int), (cZ, .boolean), (cL, .long)] (va_A [(h0, .inr (1, [.null, .null, .null, .null, .null, .null, .null, .null, .null, .null, .int (0 : Int32)]))] sz) (fun q => (wd_U q cI cZ cL x00))) (va_A [(h0, .inr (1, [.null, .null, .null, .null, .null, .null, .null, .null, .null, .null, .int (0 : Int32)]))] sz)) 10 360 (va_A [(h0, .inr (1, [.null, .null, .null, .null, .null, .null, .null, .null, .null, .null, .int (0 : Int32)]))] sz) := by
  refine x_ofV (cc := b_U_init) (maxL := 1) (by decide) rfl (Nat.le_of_ble_eq_true rfl) (fun p e s m below meth c A Q hx hb hml hts hown hin hK hA hP hD hS hret ls hl => ?_)
  have hl : lv_has ls 1 [(0, .ref h0)] := hl
  refine lv_aload_n hx hb d_U_init_0 rfl (lv_at hl 0 rfl) ?_
  refine W.objInit hx hb hown (hts _ k_52) (hts _ k_45) (hts _ k_46) rfl (by rw [hml]; exact hl.1) rfl d_U_init_1 (Nat.le_of_ble_eq_true rfl) (Nat.le_of_ble_eq_true rfl) ?_
  refine W.eq (g2 := F0 m 4 ls []) rfl ?_
  refine lv_aload_n hx hb d_U_init_4 rfl (lv_at hl 0 rfl) ?_
  refine lv_bipush (v := (24 : Int32)) hx hb d_U_init_5 (by decide) ?_
  refine x_newI (N := 24) hx hb (hts _ k_95) hK hP hD hS hA (by decide) (by decide) (by decide) (Nat.le_of_ble_eq_true rfl) (Nat.le_of_ble_eq_true rfl) d_U_init_7 (fun q7 H hP hD hS => ?_)
  have hP : va_P (dC, dI) vwCl [(h0, .inr (1, [.null, .null, .null, .null, .null, .null, .null, .null, .null, .null, .int (0 : Int32)])), (q7, .inl (cI, 24, .inl (fun _ => 0)))] H := hP
  have hD : va_D A [(h0, .inr (1, [.null, .null, .null, .null, .null, .null, .null, .null, .null, .null, .int (0 : Int32)])), (q7, .inl (cI, 24, .inl (fun _ => 0)))] := hD
  refine va_putF (D := (dC, dI)) (ci := 1) (v := .ref q7) (ty := (.array .int)) (C := "ReleaseRows$UnitRows") (T := T_U) (N := 11) hx hb hts in_U ty_U tyok_U nm_U hown hK hP hD hS 0 rfl rfl 0 (by decide) (hts _ k_53) (fun _ h9 => h9) rfl hin rfl (by decide +kernel) rfl rfl (Nat.le_of_ble_eq_true rfl) d_U_init_9 (fun H locs hP hD hS => ?_)
  have hP : va_P (dC, dI) vwCl [(h0, .inr (1, [.ref q7, .null, .null, .null, .null, .null, .null, .null, .null, .null, .int (0 : Int32)])), (q7, .inl (cI, 24, .inl (fun _ => 0)))] H := hP
  have hD : va_D A [(h0, .inr (1, [.ref q7, .null, .null, .null, .null, .null, .null, .null, .null, .null, .int (0 : Int32)])), (q7, .inl (cI, 24, .inl (fun _ => 0)))] := hD
  refine lv_aload_n hx hb d_U_init_12 rfl (lv_at hl 0 rfl) ?_
  refine lv_bipush (v := (24 : Int32)) hx hb d_U_init_13 (by decide) ?_
  refine x_newI (N := 24) hx hb (hts _ k_95) hK hP hD hS hA (by decide) (by decide) (by decide) (Nat.le_of_ble_eq_true rfl) (Nat.le_of_ble_eq_true rfl) d_U_init_15 (fun q15 H hP hD hS => ?_)
  have hP : va_P (dC, dI) vwCl [(h0, .inr (1, [.ref q7, .null, .null, .null, .null, .null, .null, .null, .null, .null, .int (0 : Int32)])), (q7, .inl (cI, 24, .inl (fun _ => 0))), (q15, .inl (cI, 24, .inl (fun _ => 0)))] H := hP
  have hD : va_D A [(h0, .inr (1, [.ref q7, .null, .null, .null, .null, .null, .null, .null, .null, .null, .int (0 : Int32)])), (q7, .inl (cI, 24, .inl (fun _ => 0))), (q15, .inl (cI, 24, .inl (fun _ => 0)))] := hD
  refine va_putF (D := (dC, dI)) (ci := 1) (v := .ref q15) (ty := (.array .int)) (C := "ReleaseRows$UnitRows") (T := T_U) (N := 11) hx hb hts in_U ty_U tyok_U nm_U hown hK hP hD hS 0 rfl rfl 1 (by decide) (hts _ k_55) (fun _ h9 => h9) rfl hin rfl (by decide +kernel) rfl rfl (Nat.le_of_ble_eq_true rfl) d_U_init_17 (fun H locs hP hD hS => ?_)
  have hP : va_P (dC, dI) vwCl [(h0, .inr (1, [.ref q7, .ref q15, .null, .null, .null, .null, .null, .null, .null, .null, .int (0 : Int32)])), (q7, .inl (cI, 24, .inl (fun _ => 0))), (q15, .inl (cI, 24, .inl (fun _ => 0)))] H := hP
  have hD : va_D A [(h0, .inr (1, [.ref q7, .ref q15, .null, .null, .null, .null, .null, .null, .null, .null, .int (0 : Int32)])), (q7, .inl (cI, 24, .inl (fun _ => 0))), (q15, .inl (cI, 24, .inl (fun _ => 0)))] := hD
  refine lv_aload_n hx hb d_U_init_20 rfl (lv_at hl 0 rfl) ?_
  refine lv_bipush (v := (24 : Int32)) hx hb d_U_init_21 (by decide) ?_
  refine x_newI (N := 24) hx hb (hts _ k_95) hK hP hD hS hA (by decide) (by decide) (by decide) (Nat.le_of_ble_eq_true rfl) (Nat.le_of_ble_eq_true rfl) d_U_init_23 (fun q23 H hP hD hS => ?_)
  have hP : va_P (dC, dI) vwCl [(h0, .inr (1, [.ref q7, .ref q15, .null, .null, .null, .null, .null, .null, .null, .null, .int (0 : Int32)])), (q7, .inl (cI, 24, .inl (fun _ => 0))), (q15, .inl (cI, 24, .inl (fun _ => 0))), (q23, .inl (cI, 24, .inl (fun _ => 0)))] H := hP
  have hD : va_D A [(h0, .inr (1, [.ref q7, .ref q15, .null, .null, .null, .null, .null, .null, .null, .null, .int (0 : Int32)])), (q7, .inl (cI, 24, .inl (fun _ => 0))), (q15, .inl (cI, 24, .inl (fun _ => 0))), (q23, .inl (cI, 24, .inl (fun _ => 0)))] := hD
  refine va_putF (D := (dC, dI)) (ci := 1) (v := .ref q23) (ty := (.array .int)) (C := "ReleaseRows$UnitRows") (T := T_U) (N := 11) hx hb hts in_U ty_U tyok_U nm_U hown hK hP hD hS 0 rfl rfl 2 (by decide) (hts _ k_56) (fun _ h9 => h9) rfl hin rfl (by decide +kernel) rfl rfl (Nat.le_of_ble_eq_true rfl) d_U_init_25 (fun H locs hP hD hS => ?_)
  have hP : va_P (dC, dI) vwCl [(h0, .inr (1, [.ref q7, .ref q15, .ref q23, .null, .null, .null, .null, .null, .null, .null, .int (0 : Int32)])), (q7, .inl (cI, 24, .inl (fun _ => 0))), (q15, .inl (cI, 24, .inl (fun _ => 0))), (q23, .inl (cI, 24, .inl (fun _ => 0)))] H := hP
  have hD : va_D A [(h0, .inr (1, [.ref q7, .ref q15, .ref q23, .null, .null, .null, .null, .null, .null, .null, .int (0 : Int32)])), (q7, .inl (cI, 24, .inl (fun _ => 0))), (q15, .inl (cI, 24, .inl (fun _ => 0))), (q23, .inl (cI, 24, .inl (fun _ => 0)))] := hD
  refine lv_aload_n hx hb d_U_init_28 rfl (lv_at hl 0 rfl) ?_
  refine lv_bipush (v := (24 : Int32)) hx hb d_U_init_29 (by decide) ?_
  refine x_newI (N := 24) hx hb (hts _ k_95) hK hP hD hS hA (by decide) (by decide) (by decide) (Nat.le_of_ble_eq_true rfl) (Nat.le_of_ble_eq_true rfl) d_U_init_31 (fun q31 H hP hD hS => ?_)
  have hP : va_P (dC, dI) vwCl [(h0, .inr (1, [.ref q7, .ref q15, .ref q23, .null, .null, .null, .null, .null, .null, .null, .int (0 : Int32)])), (q7, .inl (cI, 24, .inl (fun _ => 0))), (q15, .inl (cI, 24, .inl (fun _ => 0))), (q23, .inl (cI, 24, .inl (fun _ => 0))), (q31, .inl (cI, 24, .inl (fun _ => 0)))] H := hP
  have hD : va_D A [(h0, .inr (1, [.ref q7, .ref q15, .ref q23, .null, .null, .null, .null, .null, .null, .null, .int (0 : Int32)])), (q7, .inl (cI, 24, .inl (fun _ => 0))), (q15, .inl (cI, 24, .inl (fun _ => 0))), (q23, .inl (cI, 24, .inl (fun _ => 0))), (q31, .inl (cI, 24, .inl (fun _ => 0)))] := hD
  refine va_putF (D := (dC, dI)) (ci := 1) (v := .ref q31) (ty := (.array .int)) (C := "ReleaseRows$UnitRows") (T := T_U) (N := 11) hx hb hts in_U ty_U tyok_U nm_U hown hK hP hD hS 0 rfl rfl 3 (by decide) (hts _ k_57) (fun _ h9 => h9) rfl hin rfl (by decide +kernel) rfl rfl (Nat.le_of_ble_eq_true rfl) d_U_init_33 (fun H locs hP hD hS => ?_)
  have hP : va_P (dC, dI) vwCl [(h0, .inr (1, [.ref q7, .ref q15, .ref q23, .ref q31, .null, .null, .null, .null, .null, .null, .int (0 : Int32)])), (q7, .inl (cI, 24, .inl (fun _ => 0))), (q15, .inl (cI, 24, .inl (fun _ => 0))), (q23, .inl (cI, 24, .inl (fun _ => 0))), (q31, .inl (cI, 24, .inl (fun _ => 0)))] H := hP
  have hD : va_D A [(h0, .inr (1, [.ref q7, .ref q15, .ref q23, .ref q31, .null, .null, .null, .null, .null, .null, .int (0 : Int32)])), (q7, .inl (cI, 24, .inl (fun _ => 0))), (q15, .inl (cI, 24, .inl (fun _ => 0))), (q23, .inl (cI, 24, .inl (fun _ => 0))), (q31, .inl (cI, 24, .inl (fun _ => 0)))] := hD
  refine lv_aload_n hx hb d_U_init_36 rfl (lv_at hl 0 rfl) ?_
  refine lv_bipush (v := (24 : Int32)) hx hb d_U_init_37 (by decide) ?_
  refine x_newI (N := 24) hx hb (hts _ k_95) hK hP hD hS hA (by decide) (by decide) (by decide) (Nat.le_of_ble_eq_true rfl) (Nat.le_of_ble_eq_true rfl) d_U_init_39 (fun q39 H hP hD hS => ?_)
  have hP : va_P (dC, dI) vwCl [(h0, .inr (1, [.ref q7, .ref q15, .ref q23, .ref q31, .null, .null, .null, .null, .null, .null, .int (0 : Int32)])), (q7, .inl (cI, 24, .inl (fun _ => 0))), (q15, .inl (cI, 24, .inl (fun _ => 0))), (q23, .inl (cI, 24, .inl (fun _ => 0))), (q31, .inl (cI, 24, .inl (fun _ => 0))), (q39, .inl (cI, 24, .inl (fun _ => 0)))] H := hP
  have hD : va_D A [(h0, .inr (1, [.ref q7, .ref q15, .ref q23, .ref q31, .null, .null, .null, .null, .null, .null, .int (0 : Int32)])), (q7, .inl (cI, 24, .inl (fun _ => 0))), (q15, .inl (cI, 24, .inl (fun _ => 0))), (q23, .inl (cI, 24, .inl (fun _ => 0))), (q31, .inl (cI, 24, .inl (fun _ => 0))), (q39, .inl (cI, 24, .inl (fun _ => 0)))] := hD
  refine va_putF (D := (dC, dI)) (ci := 1) (v := .ref q39) (ty := (.array .int)) (C := "ReleaseRows$UnitRows") (T := T_U) (N := 11) hx hb hts in_U ty_U tyok_U nm_U hown hK hP hD hS 0 rfl rfl 4 (by decide) (hts _ k_58) (fun _ h9 => h9) rfl hin rfl (by decide +kernel) rfl rfl (Nat.le_of_ble_eq_true rfl) d_U_init_41 (fun H locs hP hD hS => ?_)
  have hP : va_P (dC, dI) vwCl [(h0, .inr (1, [.ref q7, .ref q15, .ref q23, .ref q31, .ref q39, .null, .null, .null, .null, .null, .int (0 : Int32)])), (q7, .inl (cI, 24, .inl (fun _ => 0))), (q15, .inl (cI, 24, .inl (fun _ => 0))), (q23, .inl (cI, 24, .inl (fun _ => 0))), (q31, .inl (cI, 24, .inl (fun _ => 0))), (q39, .inl (cI, 24, .inl (fun _ => 0)))] H := hP
  have hD : va_D A [(h0, .inr (1, [.ref q7, .ref q15, .ref q23, .ref q31, .ref q39, .null, .null, .null, .null, .null, .int (0 : Int32)])), (q7, .inl (cI, 24, .inl (fun _ => 0))), (q15, .inl (cI, 24, .inl (fun _ => 0))), (q23, .inl (cI, 24, .inl (fun _ => 0))), (q31, .inl (cI, 24, .inl (fun _ => 0))), (q39, .inl (cI, 24, .inl (fun _ => 0)))] := hD
  refine lv_aload_n hx hb d_U_init_44 rfl (lv_at hl 0 rfl) ?_
  refine lv_bipush (v := (24 : Int32)) hx hb d_U_init_45 (by decide) ?_
  refine x_newI (N := 24) hx hb (hts _ k_95) hK hP hD hS hA (by decide) (by decide) (by decide) (Nat.le_of_ble_eq_true rfl) (Nat.le_of_ble_eq_true rfl) d_U_init_47 (fun q47 H hP hD hS => ?_)
  have hP : va_P (dC, dI) vwCl [(h0, .inr (1, [.ref q7, .ref q15, .ref q23, .ref q31, .ref q39, .null, .null, .null, .null, .null, .int (0 : Int32)])), (q7, .inl (cI, 24, .inl (fun _ => 0))), (q15, .inl (cI, 24, .inl (fun _ => 0))), (q23, .inl (cI, 24, .inl (fun _ => 0))), (q31, .inl (cI, 24, .inl (fun _ => 0))), (q39, .inl (cI, 24, .inl (fun _ => 0))), (q47, .inl (cI, 24, .inl (fun _ => 0)))] H := hP
  have hD : va_D A [(h0, .inr (1, [.ref q7, .ref q15, .ref q23, .ref q31, .ref q39, .null, .null, .null, .null, .null, .int (0 : Int32)])), (q7, .inl (cI, 24, .inl (fun _ => 0))), (q15, .inl (cI, 24, .inl (fun _ => 0))), (q23, .inl (cI, 24, .inl (fun _ => 0))), (q31, .inl (cI, 24, .inl (fun _ => 0))), (q39, .inl (cI, 24, .inl (fun _ => 0))), (q47, .inl (cI, 24, .inl (fun _ => 0)))] := hD
  refine va_putF (D := (dC, dI)) (ci := 1) (v := .ref q47) (ty := (.array .int)) (C := "ReleaseRows$UnitRows") (T := T_U) (N := 11) hx hb hts in_U ty_U tyok_U nm_U hown hK hP hD hS 0 rfl rfl 5 (by decide) (hts _ k_60) (fun _ h9 => h9) rfl hin rfl (by decide +kernel) rfl rfl (Nat.le_of_ble_eq_true rfl) d_U_init_49 (fun H locs hP hD hS => ?_)
  have hP : va_P (dC, dI) vwCl [(h0, .inr (1, [.ref q7, .ref q15, .ref q23, .ref q31, .ref q39, .ref q47, .null, .null, .null, .null, .int (0 : Int32)])), (q7, .inl (cI, 24, .inl (fun _ => 0))), (q15, .inl (cI, 24, .inl (fun _ => 0))), (q23, .inl (cI, 24, .inl (fun _ => 0))), (q31, .inl (cI, 24, .inl (fun _ => 0))), (q39, .inl (cI, 24, .inl (fun _ => 0))), (q47, .inl (cI, 24, .inl (fun _ => 0)))] H := hP
  have hD : va_D A [(h0, .inr (1, [.ref q7, .ref q15, .ref q23, .ref q31, .ref q39, .ref q47, .null, .null, .null, .null, .int (0 : Int32)])), (q7, .inl (cI, 24, .inl (fun _ => 0))), (q15, .inl (cI, 24, .inl (fun _ => 0))), (q23, .inl (cI, 24, .inl (fun _ => 0))), (q31, .inl (cI, 24, .inl (fun _ => 0))), (q39, .inl (cI, 24, .inl (fun _ => 0))), (q47, .inl (cI, 24, .inl (fun _ => 0)))] := hD
  refine lv_aload_n hx hb d_U_init_52 rfl (lv_at hl 0 rfl) ?_
  refine lv_bipush (v := (24 : Int32)) hx hb d_U_init_53 (by decide) ?_
  refine x_newI (N := 24) hx hb (hts _ k_95) hK hP hD hS hA (by decide) (by decide) (by decide) (Nat.le_of_ble_eq_true rfl) (Nat.le_of_ble_eq_true rfl) d_U_init_55 (fun q55 H hP hD hS => ?_)
  have hP : va_P (dC, dI) vwCl [(h0, .inr (1, [.ref q7, .ref q15, .ref q23, .ref q31, .ref q39, .ref q47, .null, .null, .null, .null, .int (0 : Int32)])), (q7, .inl (cI, 24, .inl (fun _ => 0))), (q15, .inl (cI, 24, .inl (fun _ => 0))), (q23, .inl (cI, 24, .inl (fun _ => 0))), (q31, .inl (cI, 24, .inl (fun _ => 0))), (q39, .inl (cI, 24, .inl (fun _ => 0))), (q47, .inl (cI, 24, .inl (fun _ => 0))), (q55, .inl (cI, 24, .inl (fun _ => 0)))] H := hP
  have hD : va_D A [(h0, .inr (1, [.ref q7, .ref q15, .ref q23, .ref q31, .ref q39, .ref q47, .null, .null, .null, .null, .int (0 : Int32)])), (q7, .inl (cI, 24, .inl (fun _ => 0))), (q15, .inl (cI, 24, .inl (fun _ => 0))), (q23, .inl (cI, 24, .inl (fun _ => 0))), (q31, .inl (cI, 24, .inl (fun _ => 0))), (q39, .inl (cI, 24, .inl (fun _ => 0))), (q47, .inl (cI, 24, .inl (fun _ => 0))), (q55, .inl (cI, 24, .inl (fun _ => 0)))] := hD
  refine va_putF (D := (dC, dI)) (ci := 1) (v := .ref q55) (ty := (.array .int)) (C := "ReleaseRows$UnitRows") (T := T_U) (N := 11) hx hb hts in_U ty_U tyok_U nm_U hown hK hP hD hS 0 rfl rfl 6 (by decide) (hts _ k_62) (fun _ h9 => h9) rfl hin rfl (by decide +kernel) rfl rfl (Nat.le_of_ble_eq_true rfl) d_U_init_57 (fun H locs hP hD hS => ?_)
  have hP : va_P (dC, dI) vwCl [(h0, .inr (1, [.ref q7, .ref q15, .ref q23, .ref q31, .ref q39, .ref q47, .ref q55, .null, .null, .null, .int (0 : Int32)])), (q7, .inl (cI, 24, .inl (fun _ => 0))), (q15, .inl (cI, 24, .inl (fun _ => 0))), (q23, .inl (cI, 24, .inl (fun _ => 0))), (q31, .inl (cI, 24, .inl (fun _ => 0))), (q39, .inl (cI, 24, .inl (fun _ => 0))), (q47, .inl (cI, 24, .inl (fun _ => 0))), (q55, .inl (cI, 24, .inl (fun _ => 0)))] H := hP
  have hD : va_D A [(h0, .inr (1, [.ref q7, .ref q15, .ref q23, .ref q31, .ref q39, .ref q47, .ref q55, .null, .null, .null, .int (0 : Int32)])), (q7, .inl (cI, 24, .inl (fun _ => 0))), (q15, .inl (cI, 24, .inl (fun _ => 0))), (q23, .inl (cI, 24, .inl (fun _ => 0))), (q31, .inl (cI, 24, .inl (fun _ => 0))), (q39, .inl (cI, 24, .inl (fun _ => 0))), (q47, .inl (cI, 24, .inl (fun _ => 0))), (q55, .inl (cI, 24, .inl (fun _ => 0)))] := hD
  refine lv_aload_n hx hb d_U_init_60 rfl (lv_at hl 0 rfl) ?_
  refine lv_bipush (v := (24 : Int32)) hx hb d_U_init_61 (by decide) ?_
  refine x_newI (N := 24) hx hb (hts _ k_95) hK hP hD hS hA (by decide) (by decide) (by decide) (Nat.le_of_ble_eq_true rfl) (Nat.le_of_ble_eq_true rfl) d_U_init_63 (fun q63 H hP hD hS => ?_)
  have hP : va_P (dC, dI) vwCl [(h0, .inr (1, [.ref q7, .ref q15, .ref q23, .ref q31, .ref q39, .ref q47, .ref q55, .null, .null, .null, .int (0 : Int32)])), (q7, .inl (cI, 24, .inl (fun _ => 0))), (q15, .inl (cI, 24, .inl (fun _ => 0))), (q23, .inl (cI, 24, .inl (fun _ => 0))), (q31, .inl (cI, 24, .inl (fun _ => 0))), (q39, .inl (cI, 24, .inl (fun _ => 0))), (q47, .inl (cI, 24, .inl (fun _ => 0))), (q55, .inl (cI, 24, .inl (fun _ => 0))), (q63, .inl (cI, 24, .inl (fun _ => 0)))] H := hP
  have hD : va_D A [(h0, .inr (1, [.ref q7, .ref q15, .ref q23, .ref q31, .ref q39, .ref q47, .ref q55, .null, .null, .null, .int (0 : Int32)])), (q7, .inl (cI, 24, .inl (fun _ => 0))), (q15, .inl (cI, 24, .inl (fun _ => 0))), (q23, .inl (cI, 24, .inl (fun _ => 0))), (q31, .inl (cI, 24, .inl (fun _ => 0))), (q39, .inl (cI, 24, .inl (fun _ => 0))), (q47, .inl (cI, 24, .inl (fun _ => 0))), (q55, .inl (cI, 24, .inl (fun _ => 0))), (q63, .inl (cI, 24, .inl (fun _ => 0)))] := hD
  refine va_putF (D := (dC, dI)) (ci := 1) (v := .ref q63) (ty := (.array .int)) (C := "ReleaseRows$UnitRows") (T := T_U) (N := 11) hx hb hts in_U ty_U tyok_U nm_U hown hK hP hD hS 0 rfl rfl 7 (by decide) (hts _ k_64) (fun _ h9 => h9) rfl hin rfl (by decide +kernel) rfl rfl (Nat.le_of_ble_eq_true rfl) d_U_init_65 (fun H locs hP hD hS => ?_)
  have hP : va_P (dC, dI) vwCl [(h0, .inr (1, [.ref q7, .ref q15, .ref q23, .ref q31, .ref q39, .ref q47, .ref q55, .ref q63, .null, .null, .int (0 : Int32)])), (q7, .inl (cI, 24, .inl (fun _ => 0))), (q15, .inl (cI, 24, .inl (fun _ => 0))), (q23, .inl (cI, 24, .inl (fun _ => 0))), (q31, .inl (cI, 24, .inl (fun _ => 0))), (q39, .inl (cI, 24, .inl (fun _ => 0))), (q47, .inl (cI, 24, .inl (fun _ => 0))), (q55, .inl (cI, 24, .inl (fun _ => 0))), (q63, .inl (cI, 24, .inl (fun _ => 0)))] H := hP
  have hD : va_D A [(h0, .inr (1, [.ref q7, .ref q15, .ref q23, .ref q31, .ref q39, .ref q47, .ref q55, .ref q63, .null, .null, .int (0 : Int32)])), (q7, .inl (cI, 24, .inl (fun _ => 0))), (q15, .inl (cI, 24, .inl (fun _ => 0))), (q23, .inl (cI, 24, .inl (fun _ => 0))), (q31, .inl (cI, 24, .inl (fun _ => 0))), (q39, .inl (cI, 24, .inl (fun _ => 0))), (q47, .inl (cI, 24, .inl (fun _ => 0))), (q55, .inl (cI, 24, .inl (fun _ => 0))), (q63, .inl (cI, 24, .inl (fun _ => 0)))] := hD
  refine lv_aload_n hx hb d_U_init_68 rfl (lv_at hl 0 rfl) ?_
  refine lv_bipush (v := (24 : Int32)) hx hb d_U_init_69 (by decide) ?_
  refine x_newI (N := 24) hx hb (hts _ k_95) hK hP hD hS hA (by decide) (by decide) (by decide) (Nat.le_of_ble_eq_true rfl) (Nat.le_of_ble_eq_true rfl) d_U_init_71 (fun q71 H hP hD hS => ?_)
  have hP : va_P (dC, dI) vwCl [(h0, .inr (1, [.ref q7, .ref q15, .ref q23, .ref q31, .ref q39, .ref q47, .ref q55, .ref q63, .null, .null, .int (0 : Int32)])), (q7, .inl (cI, 24, .inl (fun _ => 0))), (q15, .inl (cI, 24, .inl (fun _ => 0))), (q23, .inl (cI, 24, .inl (fun _ => 0))), (q31, .inl (cI, 24, .inl (fun _ => 0))), (q39, .inl (cI, 24, .inl (fun _ => 0))), (q47, .inl (cI, 24, .inl (fun _ => 0))), (q55, .inl (cI, 24, .inl (fun _ => 0))), (q63, .inl (cI, 24, .inl (fun _ => 0))), (q71, .inl (cI, 24, .inl (fun _ => 0)))] H := hP
  have hD : va_D A [(h0, .inr (1, [.ref q7, .ref q15, .ref q23, .ref q31, .ref q39, .ref q47, .ref q55, .ref q63, .null, .null, .int (0 : Int32)])), (q7, .inl (cI, 24, .inl (fun _ => 0))), (q15, .inl (cI, 24, .inl (fun _ => 0))), (q23, .inl (cI, 24, .inl (fun _ => 0))), (q31, .inl (cI, 24, .inl (fun _ => 0))), (q39, .inl (cI, 24, .inl (fun _ => 0))), (q47, .inl (cI, 24, .inl (fun _ => 0))), (q55, .inl (cI, 24, .inl (fun _ => 0))), (q63, .inl (cI, 24, .inl (fun _ => 0))), (q71, .inl (cI, 24, .inl (fun _ => 0)))] := hD
  refine va_putF (D := (dC, dI)) (ci := 1) (v := .ref q71) (ty := (.array .int)) (C := "ReleaseRows$UnitRows") (T := T_U) (N := 11) hx hb hts in_U ty_U tyok_U nm_U hown hK hP hD hS 0 rfl rfl 8 (by decide) (hts _ k_66) (fun _ h9 => h9) rfl hin rfl (by decide +kernel) rfl rfl (Nat.le_of_ble_eq_true rfl) d_U_init_73 (fun H locs hP hD hS => ?_)
  have hP : va_P (dC, dI) vwCl [(h0, .inr (1, [.ref q7, .ref q15, .ref q23, .ref q31, .ref q39, .ref q47, .ref q55, .ref q63, .ref q71, .null, .int (0 : Int32)])), (q7, .inl (cI, 24, .inl (fun _ => 0))), (q15, .inl (cI, 24, .inl (fun _ => 0))), (q23, .inl (cI, 24, .inl (fun _ => 0))), (q31, .inl (cI, 24, .inl (fun _ => 0))), (q39, .inl (cI, 24, .inl (fun _ => 0))), (q47, .inl (cI, 24, .inl (fun _ => 0))), (q55, .inl (cI, 24, .inl (fun _ => 0))), (q63, .inl (cI, 24, .inl (fun _ => 0))), (q71, .inl (cI, 24, .inl (fun _ => 0)))] H := hP
  have hD : va_D A [(h0, .inr (1, [.ref q7, .ref q15, .ref q23, .ref q31, .ref q39, .ref q47, .ref q55, .ref q63, .ref q71, .null, .int (0 : Int32)])), (q7, .inl (cI, 24, .inl (fun _ => 0))), (q15, .inl (cI, 24, .inl (fun _ => 0))), (q23, .inl (cI, 24, .inl (fun _ => 0))), (q31, .inl (cI, 24, .inl (fun _ => 0))), (q39, .inl (cI, 24, .inl (fun _ => 0))), (q47, .inl (cI, 24, .inl (fun _ => 0))), (q55, .inl (cI, 24, .inl (fun _ => 0))), (q63, .inl (cI, 24, .inl (fun _ => 0))), (q71, .inl (cI, 24, .inl (fun _ => 0)))] := hD
  refine lv_aload_n hx hb d_U_init_76 rfl (lv_at hl 0 rfl) ?_
  refine lv_sipush (v := (144 : Int32)) hx hb d_U_init_77 (by decide) ?_
  refine x_newI (N := 144) hx hb (hts _ k_95) hK hP hD hS hA (by decide) (by decide) (by decide) (Nat.le_of_ble_eq_true rfl) (Nat.le_of_ble_eq_true rfl) d_U_init_80 (fun q80 H hP hD hS => ?_)
  have hP : va_P (dC, dI) vwCl [(h0, .inr (1, [.ref q7, .ref q15, .ref q23, .ref q31, .ref q39, .ref q47, .ref q55, .ref q63, .ref q71, .null, .int (0 : Int32)])), (q7, .inl (cI, 24, .inl (fun _ => 0))), (q15, .inl (cI, 24, .inl (fun _ => 0))), (q23, .inl (cI, 24, .inl (fun _ => 0))), (q31, .inl (cI, 24, .inl (fun _ => 0))), (q39, .inl (cI, 24, .inl (fun _ => 0))), (q47, .inl (cI, 24, .inl (fun _ => 0))), (q55, .inl (cI, 24, .inl (fun _ => 0))), (q63, .inl (cI, 24, .inl (fun _ => 0))), (q71, .inl (cI, 24, .inl (fun _ => 0))), (q80, .inl (cI, 144, .inl (fun _ => 0)))] H := hP
  have hD : va_D A [(h0, .inr (1, [.ref q7, .ref q15, .ref q23, .ref q31, .ref q39, .ref q47, .ref q55, .ref q63, .ref q71, .null, .int (0 : Int32)])), (q7, .inl (cI, 24, .inl (fun _ => 0))), (q15, .inl (cI, 24, .inl (fun _ => 0))), (q23, .inl (cI, 24, .inl (fun _ => 0))), (q31, .inl (cI, 24, .inl (fun _ => 0))), (q39, .inl (cI, 24, .inl (fun _ => 0))), (q47, .inl (cI, 24, .inl (fun _ => 0))), (q55, .inl (cI, 24, .inl (fun _ => 0))), (q63, .inl (cI, 24, .inl (fun _ => 0))), (q71, .inl (cI, 24, .inl (fun _ => 0))), (q80, .inl (cI, 144, .inl (fun _ => 0)))] := hD
  refine va_putF (D := (dC, dI)) (ci := 1) (v := .ref q80) (ty := (.array .int)) (C := "ReleaseRows$UnitRows") (T := T_U) (N := 11) hx hb hts in_U ty_U tyok_U nm_U hown hK hP hD hS 0 rfl rfl 9 (by decide) (hts _ k_68) (fun _ h9 => h9) rfl hin rfl (by decide +kernel) rfl rfl (Nat.le_of_ble_eq_true rfl) d_U_init_82 (fun H locs hP hD hS => ?_)
  have hP : va_P (dC, dI) vwCl [(h0, .inr (1, [.ref q7, .ref q15, .ref q23, .ref q31, .ref q39, .ref q47, .ref q55, .ref q63, .ref q71, .ref q80, .int (0 : Int32)])), (q7, .inl (cI, 24, .inl (fun _ => 0))), (q15, .inl (cI, 24, .inl (fun _ => 0))), (q23, .inl (cI, 24, .inl (fun _ => 0))), (q31, .inl (cI, 24, .inl (fun _ => 0))), (q39, .inl (cI, 24, .inl (fun _ => 0))), (q47, .inl (cI, 24, .inl (fun _ => 0))), (q55, .inl (cI, 24, .inl (fun _ => 0))), (q63, .inl (cI, 24, .inl (fun _ => 0))), (q71, .inl (cI, 24, .inl (fun _ => 0))), (q80, .inl (cI, 144, .inl (fun _ => 0)))] H := hP
  have hD : va_D A [(h0, .inr (1, [.ref q7, .ref q15, .ref q23, .ref q31, .ref q39, .ref q47, .ref q55, .ref q63, .ref q71, .ref q80, .int (0 : Int32)])), (q7, .inl (cI, 24, .inl (fun _ => 0))), (q15, .inl (cI, 24, .inl (fun _ => 0))), (q23, .inl (cI, 24, .inl (fun _ => 0))), (q31, .inl (cI, 24, .inl (fun _ => 0))), (q39, .inl (cI, 24, .inl (fun _ => 0))), (q47, .inl (cI, 24, .inl (fun _ => 0))), (q55, .inl (cI, 24, .inl (fun _ => 0))), (q63, .inl (cI, 24, .inl (fun _ => 0))), (q71, .inl (cI, 24, .inl (fun _ => 0))), (q80, .inl (cI, 144, .inl (fun _ => 0)))] := hD
  refine lv_aload_n hx hb d_U_init_85 rfl (lv_at hl 0 rfl) ?_
  refine lv_iconst (v := (0 : Int32)) hx hb d_U_init_86 (by decide) ?_
  refine va_put (D := (dC, dI)) (ci := 1) (v := .int (0 : Int32)) (ty := .int) (C := "ReleaseRows$UnitRows") (T := T_U) (N := 11) hx hb hts in_U ty_U tyok_U nm_U hown hK hP hD hS 0 rfl rfl 10 (by decide) (hts _ k_70) (fun _ h9 => h9) rfl (by decide +kernel) rfl rfl (Nat.le_of_ble_eq_true rfl) d_U_init_87 (fun H locs hP hD hS => ?_)
  have hP : va_P (dC, dI) vwCl [(h0, .inr (1, [.ref q7, .ref q15, .ref q23, .ref q31, .ref q39, .ref q47, .ref q55, .ref q63, .ref q71, .ref q80, .int (0 : Int32)])), (q7, .inl (cI, 24, .inl (fun _ => 0))), (q15, .inl (cI, 24, .inl (fun _ => 0))), (q23, .inl (cI, 24, .inl (fun _ => 0))), (q31, .inl (cI, 24, .inl (fun _ => 0))), (q39, .inl (cI, 24, .inl (fun _ => 0))), (q47, .inl (cI, 24, .inl (fun _ => 0))), (q55, .inl (cI, 24, .inl (fun _ => 0))), (q63, .inl (cI, 24, .inl (fun _ => 0))), (q71, .inl (cI, 24, .inl (fun _ => 0))), (q80, .inl (cI, 144, .inl (fun _ => 0)))] H := hP
  have hD : va_D A [(h0, .inr (1, [.ref q7, .ref q15, .ref q23, .ref q31, .ref q39, .ref q47, .ref q55, .ref q63, .ref q71, .ref q80, .int (0 : Int32)])), (q7, .inl (cI, 24, .inl (fun _ => 0))), (q15, .inl (cI, 24, .inl (fun _ => 0))), (q23, .inl (cI, 24, .inl (fun _ => 0))), (q31, .inl (cI, 24, .inl (fun _ => 0))), (q39, .inl (cI, 24, .inl (fun _ => 0))), (q47, .inl (cI, 24, .inl (fun _ => 0))), (q55, .inl (cI, 24, .inl (fun _ => 0))), (q63, .inl (cI, 24, .inl (fun _ => 0))), (q71, .inl (cI, 24, .inl (fun _ => 0))), (q80, .inl (cI, 144, .inl (fun _ => 0)))] := hD
  exact hret (fun j => [h0, q7, q15, q23, q31, q39, q47, q55, q63, q71, q80, 0].getD j 0) H locs _ _ _ _ rfl hP hD hS (Nat.le_of_ble_eq_true rfl) (Nat.le_of_ble_eq_true rfl) d_U_init_90

set_option maxHeartbeats 4000000 in
set_option maxRecDepth 100000 in
theorem c_I_init (l : Launch) (dC : Nat → ClassId) (dI : Nat → Nat → Nat) (cI cZ cL : ClassId) (h0 sz : Nat) : Met l y_I_init w_I_init ({ frames := 1, cells := 9, slots := 180, locals := 12 } : Room) (va_Pc [.ref h0] (xP (dC, dI) vwCl [(cI, .int), (cZ, .boolean), (cL, .long)] [(h0, .inr (0, [.null, .null, .null, .null, .null, .null, .null, .null, .null, .int (0 : Int32)]))] sz)) (va_Qv (fun q : Nat → Nat => q 0 = h0) (xB (dC, dI) vwCl [(cI, .int), (cZ, .boolean), (cL, .long)] (va_A [(h0, .inr (0, [.null, .null, .null, .null, .null, .null, .null, .null, .null, .int (0 : Int32)]))] sz) (fun q => (wd_I q cI cZ cL x00))) (va_A [(h0, .inr (0, [.null, .null, .null, .null, .null, .null, .null, .null, .null, .int (0 : Int32)]))] sz)) 9 180 (va_A [(h0, .inr (0, [.null, .null, .null, .null, .null, .null, .null, .null, .null, .int (0 : Int32)]))] sz) := by
  refine x_ofV (cc := b_I_init) (maxL := 1) (by decide) rfl (Nat.le_of_ble_eq_true rfl) (fun p e s m below meth c A Q hx hb hml hts hown hin hK hA hP hD hS hret ls hl => ?_)
  have hl : lv_has ls 1 [(0, .ref h0)] := hl
  refine lv_aload_n hx hb d_I_init_0 rfl (lv_at hl 0 rfl) ?_
  refine W.objInit hx hb hown (hts _ k_101) (hts _ k_45) (hts _ k_46) rfl (by rw [hml]; exact hl.1) rfl d_I_init_1 (Nat.le_of_ble_eq_true rfl) (Nat.le_of_ble_eq_true rfl) ?_
  refine W.eq (g2 := F0 m 4 ls []) rfl ?_
  refine lv_aload_n hx hb d_I_init_4 rfl (lv_at hl 0 rfl) ?_
  refine lv_bipush (v := (20 : Int32)) hx hb d_I_init_5 (by decide) ?_
  refine x_newI (N := 20) hx hb (hts _ k_95) hK hP hD hS hA (by decide) (by decide) (by decide) (Nat.le_of_ble_eq_true rfl) (Nat.le_of_ble_eq_true rfl) d_I_init_7 (fun q7 H hP hD hS => ?_)
  have hP : va_P (dC, dI) vwCl [(h0, .inr (0, [.null, .null, .null, .null, .null, .null, .null, .null, .null, .int (0 : Int32)])), (q7, .inl (cI, 20, .inl (fun _ => 0)))] H := hP
  have hD : va_D A [(h0, .inr (0, [.null, .null, .null, .null, .null, .null, .null, .null, .null, .int (0 : Int32)])), (q7, .inl (cI, 20, .inl (fun _ => 0)))] := hD
  refine va_putF (D := (dC, dI)) (ci := 0) (v := .ref q7) (ty := (.array .int)) (C := "ReleaseRows$IncidentRows") (T := T_I) (N := 10) hx hb hts in_I ty_I tyok_I nm_I hown hK hP hD hS 0 rfl rfl 0 (by decide) (hts _ k_102) (fun _ h9 => h9) rfl hin rfl (by decide +kernel) rfl rfl (Nat.le_of_ble_eq_true rfl) d_I_init_9 (fun H locs hP hD hS => ?_)
  have hP : va_P (dC, dI) vwCl [(h0, .inr (0, [.ref q7, .null, .null, .null, .null, .null, .null, .null, .null, .int (0 : Int32)])), (q7, .inl (cI, 20, .inl (fun _ => 0)))] H := hP
  have hD : va_D A [(h0, .inr (0, [.ref q7, .null, .null, .null, .null, .null, .null, .null, .null, .int (0 : Int32)])), (q7, .inl (cI, 20, .inl (fun _ => 0)))] := hD
  refine lv_aload_n hx hb d_I_init_12 rfl (lv_at hl 0 rfl) ?_
  refine lv_bipush (v := (20 : Int32)) hx hb d_I_init_13 (by decide) ?_
  refine x_newZ (N := 20) hx hb (hts _ k_142) hK hP hD hS hA (by decide) (by decide) (by decide) (Nat.le_of_ble_eq_true rfl) (Nat.le_of_ble_eq_true rfl) d_I_init_15 (fun q15 H hP hD hS => ?_)
  have hP : va_P (dC, dI) vwCl [(h0, .inr (0, [.ref q7, .null, .null, .null, .null, .null, .null, .null, .null, .int (0 : Int32)])), (q7, .inl (cI, 20, .inl (fun _ => 0))), (q15, .inl (cZ, 20, .inl (fun _ => 0)))] H := hP
  have hD : va_D A [(h0, .inr (0, [.ref q7, .null, .null, .null, .null, .null, .null, .null, .null, .int (0 : Int32)])), (q7, .inl (cI, 20, .inl (fun _ => 0))), (q15, .inl (cZ, 20, .inl (fun _ => 0)))] := hD
  refine va_putF (D := (dC, dI)) (ci := 0) (v := .ref q15) (ty := (.array .boolean)) (C := "ReleaseRows$IncidentRows") (T := T_I) (N := 10) hx hb hts in_I ty_I tyok_I nm_I hown hK hP hD hS 0 rfl rfl 1 (by decide) (hts _ k_103) (fun _ h9 => h9) rfl hin rfl (by decide +kernel) rfl rfl (Nat.le_of_ble_eq_true rfl) d_I_init_17 (fun H locs hP hD hS => ?_)
  have hP : va_P (dC, dI) vwCl [(h0, .inr (0, [.ref q7, .ref q15, .null, .null, .null, .null, .null, .null, .null, .int (0 : Int32)])), (q7, .inl (cI, 20, .inl (fun _ => 0))), (q15, .inl (cZ, 20, .inl (fun _ => 0)))] H := hP
  have hD : va_D A [(h0, .inr (0, [.ref q7, .ref q15, .null, .null, .null, .null, .null, .null, .null, .int (0 : Int32)])), (q7, .inl (cI, 20, .inl (fun _ => 0))), (q15, .inl (cZ, 20, .inl (fun _ => 0)))] := hD
  refine lv_aload_n hx hb d_I_init_20 rfl (lv_at hl 0 rfl) ?_
  refine lv_bipush (v := (20 : Int32)) hx hb d_I_init_21 (by decide) ?_
  refine x_newZ (N := 20) hx hb (hts _ k_142) hK hP hD hS hA (by decide) (by decide) (by decide) (Nat.le_of_ble_eq_true rfl) (Nat.le_of_ble_eq_true rfl) d_I_init_23 (fun q23 H hP hD hS => ?_)
  have hP : va_P (dC, dI) vwCl [(h0, .inr (0, [.ref q7, .ref q15, .null, .null, .null, .null, .null, .null, .null, .int (0 : Int32)])), (q7, .inl (cI, 20, .inl (fun _ => 0))), (q15, .inl (cZ, 20, .inl (fun _ => 0))), (q23, .inl (cZ, 20, .inl (fun _ => 0)))] H := hP
  have hD : va_D A [(h0, .inr (0, [.ref q7, .ref q15, .null, .null, .null, .null, .null, .null, .null, .int (0 : Int32)])), (q7, .inl (cI, 20, .inl (fun _ => 0))), (q15, .inl (cZ, 20, .inl (fun _ => 0))), (q23, .inl (cZ, 20, .inl (fun _ => 0)))] := hD
  refine va_putF (D := (dC, dI)) (ci := 0) (v := .ref q23) (ty := (.array .boolean)) (C := "ReleaseRows$IncidentRows") (T := T_I) (N := 10) hx hb hts in_I ty_I tyok_I nm_I hown hK hP hD hS 0 rfl rfl 2 (by decide) (hts _ k_105) (fun _ h9 => h9) rfl hin rfl (by decide +kernel) rfl rfl (Nat.le_of_ble_eq_true rfl) d_I_init_25 (fun H locs hP hD hS => ?_)
  have hP : va_P (dC, dI) vwCl [(h0, .inr (0, [.ref q7, .ref q15, .ref q23, .null, .null, .null, .null, .null, .null, .int (0 : Int32)])), (q7, .inl (cI, 20, .inl (fun _ => 0))), (q15, .inl (cZ, 20, .inl (fun _ => 0))), (q23, .inl (cZ, 20, .inl (fun _ => 0)))] H := hP
  have hD : va_D A [(h0, .inr (0, [.ref q7, .ref q15, .ref q23, .null, .null, .null, .null, .null, .null, .int (0 : Int32)])), (q7, .inl (cI, 20, .inl (fun _ => 0))), (q15, .inl (cZ, 20, .inl (fun _ => 0))), (q23, .inl (cZ, 20, .inl (fun _ => 0)))] := hD
  refine lv_aload_n hx hb d_I_init_28 rfl (lv_at hl 0 rfl) ?_
  refine lv_bipush (v := (20 : Int32)) hx hb d_I_init_29 (by decide) ?_
  refine x_newI (N := 20) hx hb (hts _ k_95) hK hP hD hS hA (by decide) (by decide) (by decide) (Nat.le_of_ble_eq_true rfl) (Nat.le_of_ble_eq_true rfl) d_I_init_31 (fun q31 H hP hD hS => ?_)
  have hP : va_P (dC, dI) vwCl [(h0, .inr (0, [.ref q7, .ref q15, .ref q23, .null, .null, .null, .null, .null, .null, .int (0 : Int32)])), (q7, .inl (cI, 20, .inl (fun _ => 0))), (q15, .inl (cZ, 20, .inl (fun _ => 0))), (q23, .inl (cZ, 20, .inl (fun _ => 0))), (q31, .inl (cI, 20, .inl (fun _ => 0)))] H := hP
  have hD : va_D A [(h0, .inr (0, [.ref q7, .ref q15, .ref q23, .null, .null, .null, .null, .null, .null, .int (0 : Int32)])), (q7, .inl (cI, 20, .inl (fun _ => 0))), (q15, .inl (cZ, 20, .inl (fun _ => 0))), (q23, .inl (cZ, 20, .inl (fun _ => 0))), (q31, .inl (cI, 20, .inl (fun _ => 0)))] := hD
  refine va_putF (D := (dC, dI)) (ci := 0) (v := .ref q31) (ty := (.array .int)) (C := "ReleaseRows$IncidentRows") (T := T_I) (N := 10) hx hb hts in_I ty_I tyok_I nm_I hown hK hP hD hS 0 rfl rfl 3 (by decide) (hts _ k_107) (fun _ h9 => h9) rfl hin rfl (by decide +kernel) rfl rfl (Nat.le_of_ble_eq_true rfl) d_I_init_33 (fun H locs hP hD hS => ?_)
  have hP : va_P (dC, dI) vwCl [(h0, .inr (0, [.ref q7, .ref q15, .ref q23, .ref q31, .null, .null, .null, .null, .null, .int (0 : Int32)])), (q7, .inl (cI, 20, .inl (fun _ => 0))), (q15, .inl (cZ, 20, .inl (fun _ => 0))), (q23, .inl (cZ, 20, .inl (fun _ => 0))), (q31, .inl (cI, 20, .inl (fun _ => 0)))] H := hP
  have hD : va_D A [(h0, .inr (0, [.ref q7, .ref q15, .ref q23, .ref q31, .null, .null, .null, .null, .null, .int (0 : Int32)])), (q7, .inl (cI, 20, .inl (fun _ => 0))), (q15, .inl (cZ, 20, .inl (fun _ => 0))), (q23, .inl (cZ, 20, .inl (fun _ => 0))), (q31, .inl (cI, 20, .inl (fun _ => 0)))] := hD
  refine lv_aload_n hx hb d_I_init_36 rfl (lv_at hl 0 rfl) ?_
  refine lv_bipush (v := (20 : Int32)) hx hb d_I_init_37 (by decide) ?_
  refine x_newI (N := 20) hx hb (hts _ k_95) hK hP hD hS hA (by decide) (by decide) (by decide) (Nat.le_of_ble_eq_true rfl) (Nat.le_of_ble_eq_true rfl) d_I_init_39 (fun q39 H hP hD hS => ?_)
  have hP : va_P (dC, dI) vwCl [(h0, .inr (0, [.ref q7, .ref q15, .ref q23, .ref q31, .null, .null, .null, .null, .null, .int (0 : Int32)])), (q7, .inl (cI, 20, .inl (fun _ => 0))), (q15, .inl (cZ, 20, .inl (fun _ => 0))), (q23, .inl (cZ, 20, .inl (fun _ => 0))), (q31, .inl (cI, 20, .inl (fun _ => 0))), (q39, .inl (cI, 20, .inl (fun _ => 0)))] H := hP
  have hD : va_D A [(h0, .inr (0, [.ref q7, .ref q15, .ref q23, .ref q31, .null, .null, .null, .null, .null, .int (0 : Int32)])), (q7, .inl (cI, 20, .inl (fun _ => 0))), (q15, .inl (cZ, 20, .inl (fun _ => 0))), (q23, .inl (cZ, 20, .inl (fun _ => 0))), (q31, .inl (cI, 20, .inl (fun _ => 0))), (q39, .inl (cI, 20, .inl (fun _ => 0)))] := hD
  refine va_putF (D := (dC, dI)) (ci := 0) (v := .ref q39) (ty := (.array .int)) (C := "ReleaseRows$IncidentRows") (T := T_I) (N := 10) hx hb hts in_I ty_I tyok_I nm_I hown hK hP hD hS 0 rfl rfl 4 (by decide) (hts _ k_109) (fun _ h9 => h9) rfl hin rfl (by decide +kernel) rfl rfl (Nat.le_of_ble_eq_true rfl) d_I_init_41 (fun H locs hP hD hS => ?_)
  have hP : va_P (dC, dI) vwCl [(h0, .inr (0, [.ref q7, .ref q15, .ref q23, .ref q31, .ref q39, .null, .null, .null, .null, .int (0 : Int32)])), (q7, .inl (cI, 20, .inl (fun _ => 0))), (q15, .inl (cZ, 20, .inl (fun _ => 0))), (q23, .inl (cZ, 20, .inl (fun _ => 0))), (q31, .inl (cI, 20, .inl (fun _ => 0))), (q39, .inl (cI, 20, .inl (fun _ => 0)))] H := hP
  have hD : va_D A [(h0, .inr (0, [.ref q7, .ref q15, .ref q23, .ref q31, .ref q39, .null, .null, .null, .null, .int (0 : Int32)])), (q7, .inl (cI, 20, .inl (fun _ => 0))), (q15, .inl (cZ, 20, .inl (fun _ => 0))), (q23, .inl (cZ, 20, .inl (fun _ => 0))), (q31, .inl (cI, 20, .inl (fun _ => 0))), (q39, .inl (cI, 20, .inl (fun _ => 0)))] := hD
  refine lv_aload_n hx hb d_I_init_44 rfl (lv_at hl 0 rfl) ?_
  refine lv_bipush (v := (20 : Int32)) hx hb d_I_init_45 (by decide) ?_
  refine x_newI (N := 20) hx hb (hts _ k_95) hK hP hD hS hA (by decide) (by decide) (by decide) (Nat.le_of_ble_eq_true rfl) (Nat.le_of_ble_eq_true rfl) d_I_init_47 (fun q47 H hP hD hS => ?_)
  have hP : va_P (dC, dI) vwCl [(h0, .inr (0, [.ref q7, .ref q15, .ref q23, .ref q31, .ref q39, .null, .null, .null, .null, .int (0 : Int32)])), (q7, .inl (cI, 20, .inl (fun _ => 0))), (q15, .inl (cZ, 20, .inl (fun _ => 0))), (q23, .inl (cZ, 20, .inl (fun _ => 0))), (q31, .inl (cI, 20, .inl (fun _ => 0))), (q39, .inl (cI, 20, .inl (fun _ => 0))), (q47, .inl (cI, 20, .inl (fun _ => 0)))] H := hP
  have hD : va_D A [(h0, .inr (0, [.ref q7, .ref q15, .ref q23, .ref q31, .ref q39, .null, .null, .null, .null, .int (0 : Int32)])), (q7, .inl (cI, 20, .inl (fun _ => 0))), (q15, .inl (cZ, 20, .inl (fun _ => 0))), (q23, .inl (cZ, 20, .inl (fun _ => 0))), (q31, .inl (cI, 20, .inl (fun _ => 0))), (q39, .inl (cI, 20, .inl (fun _ => 0))), (q47, .inl (cI, 20, .inl (fun _ => 0)))] := hD
  refine va_putF (D := (dC, dI)) (ci := 0) (v := .ref q47) (ty := (.array .int)) (C := "ReleaseRows$IncidentRows") (T := T_I) (N := 10) hx hb hts in_I ty_I tyok_I nm_I hown hK hP hD hS 0 rfl rfl 5 (by decide) (hts _ k_111) (fun _ h9 => h9) rfl hin rfl (by decide +kernel) rfl rfl (Nat.le_of_ble_eq_true rfl) d_I_init_49 (fun H locs hP hD hS => ?_)
  have hP : va_P (dC, dI) vwCl [(h0, .inr (0, [.ref q7, .ref q15, .ref q23, .ref q31, .ref q39, .ref q47, .null, .null, .null, .int (0 : Int32)])), (q7, .inl (cI, 20, .inl (fun _ => 0))), (q15, .inl (cZ, 20, .inl (fun _ => 0))), (q23, .inl (cZ, 20, .inl (fun _ => 0))), (q31, .inl (cI, 20, .inl (fun _ => 0))), (q39, .inl (cI, 20, .inl (fun _ => 0))), (q47, .inl (cI, 20, .inl (fun _ => 0)))] H := hP
  have hD : va_D A [(h0, .inr (0, [.ref q7, .ref q15, .ref q23, .ref q31, .ref q39, .ref q47, .null, .null, .null, .int (0 : Int32)])), (q7, .inl (cI, 20, .inl (fun _ => 0))), (q15, .inl (cZ, 20, .inl (fun _ => 0))), (q23, .inl (cZ, 20, .inl (fun _ => 0))), (q31, .inl (cI, 20, .inl (fun _ => 0))), (q39, .inl (cI, 20, .inl (fun _ => 0))), (q47, .inl (cI, 20, .inl (fun _ => 0)))] := hD
  refine lv_aload_n hx hb d_I_init_52 rfl (lv_at hl 0 rfl) ?_
  refine lv_bipush (v := (20 : Int32)) hx hb d_I_init_53 (by decide) ?_
  refine x_newI (N := 20) hx hb (hts _ k_95) hK hP hD hS hA (by decide) (by decide) (by decide) (Nat.le_of_ble_eq_true rfl) (Nat.le_of_ble_eq_true rfl) d_I_init_55 (fun q55 H hP hD hS => ?_)
  have hP : va_P (dC, dI) vwCl [(h0, .inr (0, [.ref q7, .ref q15, .ref q23, .ref q31, .ref q39, .ref q47, .null, .null, .null, .int (0 : Int32)])), (q7, .inl (cI, 20, .inl (fun _ => 0))), (q15, .inl (cZ, 20, .inl (fun _ => 0))), (q23, .inl (cZ, 20, .inl (fun _ => 0))), (q31, .inl (cI, 20, .inl (fun _ => 0))), (q39, .inl (cI, 20, .inl (fun _ => 0))), (q47, .inl (cI, 20, .inl (fun _ => 0))), (q55, .inl (cI, 20, .inl (fun _ => 0)))] H := hP
  have hD : va_D A [(h0, .inr (0, [.ref q7, .ref q15, .ref q23, .ref q31, .ref q39, .ref q47, .null, .null, .null, .int (0 : Int32)])), (q7, .inl (cI, 20, .inl (fun _ => 0))), (q15, .inl (cZ, 20, .inl (fun _ => 0))), (q23, .inl (cZ, 20, .inl (fun _ => 0))), (q31, .inl (cI, 20, .inl (fun _ => 0))), (q39, .inl (cI, 20, .inl (fun _ => 0))), (q47, .inl (cI, 20, .inl (fun _ => 0))), (q55, .inl (cI, 20, .inl (fun _ => 0)))] := hD
  refine va_putF (D := (dC, dI)) (ci := 0) (v := .ref q55) (ty := (.array .int)) (C := "ReleaseRows$IncidentRows") (T := T_I) (N := 10) hx hb hts in_I ty_I tyok_I nm_I hown hK hP hD hS 0 rfl rfl 6 (by decide) (hts _ k_113) (fun _ h9 => h9) rfl hin rfl (by decide +kernel) rfl rfl (Nat.le_of_ble_eq_true rfl) d_I_init_57 (fun H locs hP hD hS => ?_)
  have hP : va_P (dC, dI) vwCl [(h0, .inr (0, [.ref q7, .ref q15, .ref q23, .ref q31, .ref q39, .ref q47, .ref q55, .null, .null, .int (0 : Int32)])), (q7, .inl (cI, 20, .inl (fun _ => 0))), (q15, .inl (cZ, 20, .inl (fun _ => 0))), (q23, .inl (cZ, 20, .inl (fun _ => 0))), (q31, .inl (cI, 20, .inl (fun _ => 0))), (q39, .inl (cI, 20, .inl (fun _ => 0))), (q47, .inl (cI, 20, .inl (fun _ => 0))), (q55, .inl (cI, 20, .inl (fun _ => 0)))] H := hP
  have hD : va_D A [(h0, .inr (0, [.ref q7, .ref q15, .ref q23, .ref q31, .ref q39, .ref q47, .ref q55, .null, .null, .int (0 : Int32)])), (q7, .inl (cI, 20, .inl (fun _ => 0))), (q15, .inl (cZ, 20, .inl (fun _ => 0))), (q23, .inl (cZ, 20, .inl (fun _ => 0))), (q31, .inl (cI, 20, .inl (fun _ => 0))), (q39, .inl (cI, 20, .inl (fun _ => 0))), (q47, .inl (cI, 20, .inl (fun _ => 0))), (q55, .inl (cI, 20, .inl (fun _ => 0)))] := hD
  refine lv_aload_n hx hb d_I_init_60 rfl (lv_at hl 0 rfl) ?_
  refine lv_bipush (v := (20 : Int32)) hx hb d_I_init_61 (by decide) ?_
  refine x_newI (N := 20) hx hb (hts _ k_95) hK hP hD hS hA (by decide) (by decide) (by decide) (Nat.le_of_ble_eq_true rfl) (Nat.le_of_ble_eq_true rfl) d_I_init_63 (fun q63 H hP hD hS => ?_)
  have hP : va_P (dC, dI) vwCl [(h0, .inr (0, [.ref q7, .ref q15, .ref q23, .ref q31, .ref q39, .ref q47, .ref q55, .null, .null, .int (0 : Int32)])), (q7, .inl (cI, 20, .inl (fun _ => 0))), (q15, .inl (cZ, 20, .inl (fun _ => 0))), (q23, .inl (cZ, 20, .inl (fun _ => 0))), (q31, .inl (cI, 20, .inl (fun _ => 0))), (q39, .inl (cI, 20, .inl (fun _ => 0))), (q47, .inl (cI, 20, .inl (fun _ => 0))), (q55, .inl (cI, 20, .inl (fun _ => 0))), (q63, .inl (cI, 20, .inl (fun _ => 0)))] H := hP
  have hD : va_D A [(h0, .inr (0, [.ref q7, .ref q15, .ref q23, .ref q31, .ref q39, .ref q47, .ref q55, .null, .null, .int (0 : Int32)])), (q7, .inl (cI, 20, .inl (fun _ => 0))), (q15, .inl (cZ, 20, .inl (fun _ => 0))), (q23, .inl (cZ, 20, .inl (fun _ => 0))), (q31, .inl (cI, 20, .inl (fun _ => 0))), (q39, .inl (cI, 20, .inl (fun _ => 0))), (q47, .inl (cI, 20, .inl (fun _ => 0))), (q55, .inl (cI, 20, .inl (fun _ => 0))), (q63, .inl (cI, 20, .inl (fun _ => 0)))] := hD
  refine va_putF (D := (dC, dI)) (ci := 0) (v := .ref q63) (ty := (.array .int)) (C := "ReleaseRows$IncidentRows") (T := T_I) (N := 10) hx hb hts in_I ty_I tyok_I nm_I hown hK hP hD hS 0 rfl rfl 7 (by decide) (hts _ k_115) (fun _ h9 => h9) rfl hin rfl (by decide +kernel) rfl rfl (Nat.le_of_ble_eq_true rfl) d_I_init_65 (fun H locs hP hD hS => ?_)
  have hP : va_P (dC, dI) vwCl [(h0, .inr (0, [.ref q7, .ref q15, .ref q23, .ref q31, .ref q39, .ref q47, .ref q55, .ref q63, .null, .int (0 : Int32)])), (q7, .inl (cI, 20, .inl (fun _ => 0))), (q15, .inl (cZ, 20, .inl (fun _ => 0))), (q23, .inl (cZ, 20, .inl (fun _ => 0))), (q31, .inl (cI, 20, .inl (fun _ => 0))), (q39, .inl (cI, 20, .inl (fun _ => 0))), (q47, .inl (cI, 20, .inl (fun _ => 0))), (q55, .inl (cI, 20, .inl (fun _ => 0))), (q63, .inl (cI, 20, .inl (fun _ => 0)))] H := hP
  have hD : va_D A [(h0, .inr (0, [.ref q7, .ref q15, .ref q23, .ref q31, .ref q39, .ref q47, .ref q55, .ref q63, .null, .int (0 : Int32)])), (q7, .inl (cI, 20, .inl (fun _ => 0))), (q15, .inl (cZ, 20, .inl (fun _ => 0))), (q23, .inl (cZ, 20, .inl (fun _ => 0))), (q31, .inl (cI, 20, .inl (fun _ => 0))), (q39, .inl (cI, 20, .inl (fun _ => 0))), (q47, .inl (cI, 20, .inl (fun _ => 0))), (q55, .inl (cI, 20, .inl (fun _ => 0))), (q63, .inl (cI, 20, .inl (fun _ => 0)))] := hD
  refine lv_aload_n hx hb d_I_init_68 rfl (lv_at hl 0 rfl) ?_
  refine lv_bipush (v := (20 : Int32)) hx hb d_I_init_69 (by decide) ?_
  refine x_newI (N := 20) hx hb (hts _ k_95) hK hP hD hS hA (by decide) (by decide) (by decide) (Nat.le_of_ble_eq_true rfl) (Nat.le_of_ble_eq_true rfl) d_I_init_71 (fun q71 H hP hD hS => ?_)
  have hP : va_P (dC, dI) vwCl [(h0, .inr (0, [.ref q7, .ref q15, .ref q23, .ref q31, .ref q39, .ref q47, .ref q55, .ref q63, .null, .int (0 : Int32)])), (q7, .inl (cI, 20, .inl (fun _ => 0))), (q15, .inl (cZ, 20, .inl (fun _ => 0))), (q23, .inl (cZ, 20, .inl (fun _ => 0))), (q31, .inl (cI, 20, .inl (fun _ => 0))), (q39, .inl (cI, 20, .inl (fun _ => 0))), (q47, .inl (cI, 20, .inl (fun _ => 0))), (q55, .inl (cI, 20, .inl (fun _ => 0))), (q63, .inl (cI, 20, .inl (fun _ => 0))), (q71, .inl (cI, 20, .inl (fun _ => 0)))] H := hP
  have hD : va_D A [(h0, .inr (0, [.ref q7, .ref q15, .ref q23, .ref q31, .ref q39, .ref q47, .ref q55, .ref q63, .null, .int (0 : Int32)])), (q7, .inl (cI, 20, .inl (fun _ => 0))), (q15, .inl (cZ, 20, .inl (fun _ => 0))), (q23, .inl (cZ, 20, .inl (fun _ => 0))), (q31, .inl (cI, 20, .inl (fun _ => 0))), (q39, .inl (cI, 20, .inl (fun _ => 0))), (q47, .inl (cI, 20, .inl (fun _ => 0))), (q55, .inl (cI, 20, .inl (fun _ => 0))), (q63, .inl (cI, 20, .inl (fun _ => 0))), (q71, .inl (cI, 20, .inl (fun _ => 0)))] := hD
  refine va_putF (D := (dC, dI)) (ci := 0) (v := .ref q71) (ty := (.array .int)) (C := "ReleaseRows$IncidentRows") (T := T_I) (N := 10) hx hb hts in_I ty_I tyok_I nm_I hown hK hP hD hS 0 rfl rfl 8 (by decide) (hts _ k_117) (fun _ h9 => h9) rfl hin rfl (by decide +kernel) rfl rfl (Nat.le_of_ble_eq_true rfl) d_I_init_73 (fun H locs hP hD hS => ?_)
  have hP : va_P (dC, dI) vwCl [(h0, .inr (0, [.ref q7, .ref q15, .ref q23, .ref q31, .ref q39, .ref q47, .ref q55, .ref q63, .ref q71, .int (0 : Int32)])), (q7, .inl (cI, 20, .inl (fun _ => 0))), (q15, .inl (cZ, 20, .inl (fun _ => 0))), (q23, .inl (cZ, 20, .inl (fun _ => 0))), (q31, .inl (cI, 20, .inl (fun _ => 0))), (q39, .inl (cI, 20, .inl (fun _ => 0))), (q47, .inl (cI, 20, .inl (fun _ => 0))), (q55, .inl (cI, 20, .inl (fun _ => 0))), (q63, .inl (cI, 20, .inl (fun _ => 0))), (q71, .inl (cI, 20, .inl (fun _ => 0)))] H := hP
  have hD : va_D A [(h0, .inr (0, [.ref q7, .ref q15, .ref q23, .ref q31, .ref q39, .ref q47, .ref q55, .ref q63, .ref q71, .int (0 : Int32)])), (q7, .inl (cI, 20, .inl (fun _ => 0))), (q15, .inl (cZ, 20, .inl (fun _ => 0))), (q23, .inl (cZ, 20, .inl (fun _ => 0))), (q31, .inl (cI, 20, .inl (fun _ => 0))), (q39, .inl (cI, 20, .inl (fun _ => 0))), (q47, .inl (cI, 20, .inl (fun _ => 0))), (q55, .inl (cI, 20, .inl (fun _ => 0))), (q63, .inl (cI, 20, .inl (fun _ => 0))), (q71, .inl (cI, 20, .inl (fun _ => 0)))] := hD
  refine lv_aload_n hx hb d_I_init_76 rfl (lv_at hl 0 rfl) ?_
  refine lv_iconst (v := (0 : Int32)) hx hb d_I_init_77 (by decide) ?_
  refine va_put (D := (dC, dI)) (ci := 0) (v := .int (0 : Int32)) (ty := .int) (C := "ReleaseRows$IncidentRows") (T := T_I) (N := 10) hx hb hts in_I ty_I tyok_I nm_I hown hK hP hD hS 0 rfl rfl 9 (by decide) (hts _ k_119) (fun _ h9 => h9) rfl (by decide +kernel) rfl rfl (Nat.le_of_ble_eq_true rfl) d_I_init_78 (fun H locs hP hD hS => ?_)
  have hP : va_P (dC, dI) vwCl [(h0, .inr (0, [.ref q7, .ref q15, .ref q23, .ref q31, .ref q39, .ref q47, .ref q55, .ref q63, .ref q71, .int (0 : Int32)])), (q7, .inl (cI, 20, .inl (fun _ => 0))), (q15, .inl (cZ, 20, .inl (fun _ => 0))), (q23, .inl (cZ, 20, .inl (fun _ => 0))), (q31, .inl (cI, 20, .inl (fun _ => 0))), (q39, .inl (cI, 20, .inl (fun _ => 0))), (q47, .inl (cI, 20, .inl (fun _ => 0))), (q55, .inl (cI, 20, .inl (fun _ => 0))), (q63, .inl (cI, 20, .inl (fun _ => 0))), (q71, .inl (cI, 20, .inl (fun _ => 0)))] H := hP
  have hD : va_D A [(h0, .inr (0, [.ref q7, .ref q15, .ref q23, .ref q31, .ref q39, .ref q47, .ref q55, .ref q63, .ref q71, .int (0 : Int32)])), (q7, .inl (cI, 20, .inl (fun _ => 0))), (q15, .inl (cZ, 20, .inl (fun _ => 0))), (q23, .inl (cZ, 20, .inl (fun _ => 0))), (q31, .inl (cI, 20, .inl (fun _ => 0))), (q39, .inl (cI, 20, .inl (fun _ => 0))), (q47, .inl (cI, 20, .inl (fun _ => 0))), (q55, .inl (cI, 20, .inl (fun _ => 0))), (q63, .inl (cI, 20, .inl (fun _ => 0))), (q71, .inl (cI, 20, .inl (fun _ => 0)))] := hD
  exact hret (fun j => [h0, q7, q15, q23, q31, q39, q47, q55, q63, q71, 0].getD j 0) H locs _ _ _ _ rfl hP hD hS (Nat.le_of_ble_eq_true rfl) (Nat.le_of_ble_eq_true rfl) d_I_init_81

set_option maxHeartbeats 4000000 in
set_option maxRecDepth 100000 in
theorem c_W_init (l : Launch) (dC : Nat → ClassId) (dI : Nat → Nat → Nat) (cI cZ cL : ClassId) (h0 sz : Nat) : Met l y_W_init w_W_init ({ frames := 1, cells := 1, slots := 30, locals := 12 } : Room) (va_Pc [.ref h0] (xP (dC, dI) vwCl [(cI, .int), (cZ, .boolean), (cL, .long)] [(h0, .inr (2, [.null, .int (0 : Int32)]))] sz)) (va_Qv (fun q : Nat → Nat => q 0 = h0) (xB (dC, dI) vwCl [(cI, .int), (cZ, .boolean), (cL, .long)] (va_A [(h0, .inr (2, [.null, .int (0 : Int32)]))] sz) (fun q => (wd_W q cI cZ cL x00))) (va_A [(h0, .inr (2, [.null, .int (0 : Int32)]))] sz)) 1 30 (va_A [(h0, .inr (2, [.null, .int (0 : Int32)]))] sz) := by
  refine x_ofV (cc := b_W_init) (maxL := 1) (by decide) rfl (Nat.le_of_ble_eq_true rfl) (fun p e s m below meth c A Q hx hb hml hts hown hin hK hA hP hD hS hret ls hl => ?_)
  have hl : lv_has ls 1 [(0, .ref h0)] := hl
  refine lv_aload_n hx hb d_W_init_0 rfl (lv_at hl 0 rfl) ?_
  refine W.objInit hx hb hown (hts _ k_148) (hts _ k_45) (hts _ k_46) rfl (by rw [hml]; exact hl.1) rfl d_W_init_1 (Nat.le_of_ble_eq_true rfl) (Nat.le_of_ble_eq_true rfl) ?_
  refine W.eq (g2 := F0 m 4 ls []) rfl ?_
  refine lv_aload_n hx hb d_W_init_4 rfl (lv_at hl 0 rfl) ?_
  refine lv_bipush (v := (30 : Int32)) hx hb d_W_init_5 (by decide) ?_
  refine x_newI (N := 30) hx hb (hts _ k_95) hK hP hD hS hA (by decide) (by decide) (by decide) (Nat.le_of_ble_eq_true rfl) (Nat.le_of_ble_eq_true rfl) d_W_init_7 (fun q7 H hP hD hS => ?_)
  have hP : va_P (dC, dI) vwCl [(h0, .inr (2, [.null, .int (0 : Int32)])), (q7, .inl (cI, 30, .inl (fun _ => 0)))] H := hP
  have hD : va_D A [(h0, .inr (2, [.null, .int (0 : Int32)])), (q7, .inl (cI, 30, .inl (fun _ => 0)))] := hD
  refine va_putF (D := (dC, dI)) (ci := 2) (v := .ref q7) (ty := (.array .int)) (C := "ReleaseRows$WaitingRow") (T := T_W) (N := 2) hx hb hts in_W ty_W tyok_W nm_W hown hK hP hD hS 0 rfl rfl 0 (by decide) (hts _ k_149) (fun _ h9 => h9) rfl hin rfl (by decide +kernel) rfl rfl (Nat.le_of_ble_eq_true rfl) d_W_init_9 (fun H locs hP hD hS => ?_)
  have hP : va_P (dC, dI) vwCl [(h0, .inr (2, [.ref q7, .int (0 : Int32)])), (q7, .inl (cI, 30, .inl (fun _ => 0)))] H := hP
  have hD : va_D A [(h0, .inr (2, [.ref q7, .int (0 : Int32)])), (q7, .inl (cI, 30, .inl (fun _ => 0)))] := hD
  refine lv_aload_n hx hb d_W_init_12 rfl (lv_at hl 0 rfl) ?_
  refine lv_iconst (v := (0 : Int32)) hx hb d_W_init_13 (by decide) ?_
  refine va_put (D := (dC, dI)) (ci := 2) (v := .int (0 : Int32)) (ty := .int) (C := "ReleaseRows$WaitingRow") (T := T_W) (N := 2) hx hb hts in_W ty_W tyok_W nm_W hown hK hP hD hS 0 rfl rfl 1 (by decide) (hts _ k_150) (fun _ h9 => h9) rfl (by decide +kernel) rfl rfl (Nat.le_of_ble_eq_true rfl) d_W_init_14 (fun H locs hP hD hS => ?_)
  have hP : va_P (dC, dI) vwCl [(h0, .inr (2, [.ref q7, .int (0 : Int32)])), (q7, .inl (cI, 30, .inl (fun _ => 0)))] H := hP
  have hD : va_D A [(h0, .inr (2, [.ref q7, .int (0 : Int32)])), (q7, .inl (cI, 30, .inl (fun _ => 0)))] := hD
  exact hret (fun j => [h0, q7, 0].getD j 0) H locs _ _ _ _ rfl hP hD hS (Nat.le_of_ble_eq_true rfl) (Nat.le_of_ble_eq_true rfl) d_W_init_17
end
section
def wj_R_isGood_14 (a0 : Int32) (post : Int32 → Unit → Prop)  : Prop := post (0 : Int32) ()
def wp_R_isGood (a0 : Int32) (post : Int32 → Unit → Prop) : Prop := (a0 < 0 → (wj_R_isGood_14 a0 post )) ∧ (¬ a0 < 0 → (((6 : Int32) ≤ a0 → (wj_R_isGood_14 a0 post )) ∧ (¬ (6 : Int32) ≤ a0 → (post (1 : Int32) ()))))
set_option maxHeartbeats 4000000 in
set_option maxRecDepth 100000 in
theorem c_R_isGood (l : Launch) (dC : Nat → ClassId) (dI : Nat → Nat → Nat) (cI cZ cL : ClassId)  (sz : Nat) (a0 : Int32) (post : Int32 → Unit → Prop) (hw : wp_R_isGood a0 post) : Met l y_R_isGood w_R_isGood ({ frames := 0, cells := 0, slots := 0, locals := 0 } : Room) (va_Pc [.int a0] (xP (dC, dI) vwCl [(cI, .int), (cZ, .boolean), (cL, .long)] ([] : va_W) sz)) (va_Qi post (xB (dC, dI) vwCl [(cI, .int), (cZ, .boolean), (cL, .long)] (va_A ([] : va_W) sz) (fun _ => ([] : va_W))) (va_A ([] : va_W) sz)) 0 0 (va_A ([] : va_W) sz) := by
  refine x_ofI (cc := b_R_isGood) (maxL := 1) (by decide) rfl (Nat.le_of_ble_eq_true rfl) (fun p e s m below meth c A Q hx hb hml hts hown hK hA hP hD hS hret ls hl => ?_)
  have hl : lv_has ls 1 [(0, .int a0)] := hl
  have jn14 : ∀ (H : Heap) (locs : List Loc) (ls : Array Slot), wj_R_isGood_14 a0 post  → va_P (dC, dI) vwCl ([] : va_W) H → va_D A ([] : va_W) → va_S A s.heap H locs → lv_has ls 1 [] → W p l e (headSpec w_R_isGood ({ frames := 0, cells := 0, slots := 0, locals := 0 } : Room)).room s m ([.int a0] : List Value).toArray below meth c H locs 0 0 Q (F0 m 14 ls []) := by
    intro  H locs ls hw hP hD hS hl
    unfold wj_R_isGood_14 at hw
    refine lv_iconst (v := (0 : Int32)) hx hb d_R_isGood_14 (by decide) ?_
    exact hret (0 : Int32) () _ _ _ _ _ _ (by decide) hw hP hD hS (Nat.le_of_ble_eq_true rfl) (Nat.le_of_ble_eq_true rfl) d_R_isGood_15
  unfold wp_R_isGood at hw
  refine lv_iload_n hx hb d_R_isGood_0 rfl (lv_at hl 0 rfl) ?_
  refine lv_if_lt (tgt := 14) hx hb d_R_isGood_1 (by decide) (fun c1 => ?_) (fun c1 => ?_)
  · have hw := hw.1 c1
    exact jn14 _ _ _ hw hP hD hS (lv_sub hl [] rfl)
  · have hw := hw.2 c1
    refine lv_iload_n hx hb d_R_isGood_4 rfl (lv_at hl 0 rfl) ?_
    refine lv_bipush (v := (6 : Int32)) hx hb d_R_isGood_5 (by decide) ?_
    refine lv_icmp_ge (tgt := 14) hx hb d_R_isGood_7 (by decide) (fun c7 => ?_) (fun c7 => ?_)
    · have hw := hw.1 c7
      exact jn14 _ _ _ hw hP hD hS (lv_sub hl [] rfl)
    · have hw := hw.2 c7
      refine lv_iconst (v := (1 : Int32)) hx hb d_R_isGood_10 (by decide) ?_
      refine lv_goto (tgt := 15) hx hb d_R_isGood_11 (by decide) ?_
      exact hret (1 : Int32) () _ _ _ _ _ _ (by decide) hw hP hD hS (Nat.le_of_ble_eq_true rfl) (Nat.le_of_ble_eq_true rfl) d_R_isGood_15

def wj_R_isPast_37 (xR : St) (xU : St) (xI : St) (xW : St) (a1 : Int32) (post : Int32 → Unit → Prop)  : Prop := post (0 : Int32) ()
def wp_R_isPast (xR : St) (xU : St) (xI : St) (xW : St) (a1 : Int32) (post : Int32 → Unit → Prop) : Prop := vp_in a1 20 ∧ ((¬ (xI.1 1 a1.toNatClampNeg) = 0 → (wj_R_isPast_37 xR xU xI xW a1 post )) ∧ ((xI.1 1 a1.toNatClampNeg) = 0 → (vp_in a1 20 ∧ ((((xR.2 4) - (xI.1 8 a1.toNatClampNeg)) ≤ (xR.2 5) → (wj_R_isPast_37 xR xU xI xW a1 post )) ∧ (¬ ((xR.2 4) - (xI.1 8 a1.toNatClampNeg)) ≤ (xR.2 5) → (post (1 : Int32) ()))))))
set_option maxHeartbeats 4000000 in
set_option maxRecDepth 100000 in
theorem c_R_isPast (l : Launch) (dC : Nat → ClassId) (dI : Nat → Nat → Nat) (cI cZ cL : ClassId) (qR : Nat → Nat) (qU : Nat → Nat) (qI : Nat → Nat) (qW : Nat → Nat) (sz : Nat) (xR : St) (xU : St) (xI : St) (xW : St) (a1 : Int32) (post : Int32 → Unit → Prop) (hw : wp_R_isPast xR xU xI xW a1 post) : Met l y_R_isPast w_R_isPast ({ frames := 0, cells := 0, slots := 0, locals := 0 } : Room) (va_Pc [.ref (qR 0), .int a1] (xP (dC, dI) vwCl [(cI, .int), (cZ, .boolean), (cL, .long)] (wd_RUIW qR qU qI qW cI cZ cL xR xU xI xW) sz)) (va_Qi post (xB (dC, dI) vwCl [(cI, .int), (cZ, .boolean), (cL, .long)] (va_A (wd_RUIW qR qU qI qW cI cZ cL xR xU xI xW) sz) (fun _ => (wd_RUIW qR qU qI qW cI cZ cL xR xU xI xW))) (va_A (wd_RUIW qR qU qI qW cI cZ cL xR xU xI xW) sz)) 0 0 (va_A (wd_RUIW qR qU qI qW cI cZ cL xR xU xI xW) sz) := by
  refine x_ofI (cc := b_R_isPast) (maxL := 2) (by decide) rfl (Nat.le_of_ble_eq_true rfl) (fun p e s m below meth c A Q hx hb hml hts hown hK hA hP hD hS hret ls hl => ?_)
  have hl : lv_has ls 2 [(0, .ref (qR 0)), (1, .int a1)] := hl
  have jn37 : ∀ (H : Heap) (locs : List Loc) (ls : Array Slot), wj_R_isPast_37 xR xU xI xW a1 post  → va_P (dC, dI) vwCl (wd_RUIW qR qU qI qW cI cZ cL xR xU xI xW) H → va_D A (wd_RUIW qR qU qI qW cI cZ cL xR xU xI xW) → va_S A s.heap H locs → lv_has ls 2 [] → W p l e (headSpec w_R_isPast ({ frames := 0, cells := 0, slots := 0, locals := 0 } : Room)).room s m ([.ref (qR 0), .int a1] : List Value).toArray below meth c H locs 0 0 Q (F0 m 37 ls []) := by
    intro  H locs ls hw hP hD hS hl
    unfold wj_R_isPast_37 at hw
    refine lv_iconst (v := (0 : Int32)) hx hb d_R_isPast_37 (by decide) ?_
    exact hret (0 : Int32) () _ _ _ _ _ _ (by decide) hw hP hD hS (Nat.le_of_ble_eq_true rfl) (Nat.le_of_ble_eq_true rfl) d_R_isPast_38
  unfold wp_R_isPast at hw
  refine lv_aload_n hx hb d_R_isPast_0 rfl (lv_at hl 0 rfl) ?_
  refine va_get (D := (dC, dI)) (ci := 3) (v := .ref (qI 0)) (C := "ReleaseRows") (T := T_R) (N := 6) hx hb hts in_R hown hK hP 0 rfl rfl 1 (by decide) (hts _ k_158) (fun _ h9 => h9) rfl d_R_isPast_1 ?_
  refine va_get (D := (dC, dI)) (ci := 0) (v := .ref (qI 2)) (C := "ReleaseRows$IncidentRows") (T := T_I) (N := 10) hx hb hts in_I hown hK hP 13 rfl rfl 1 (by decide) (hts _ k_104) (fun _ h9 => h9) rfl d_R_isPast_4 ?_
  refine lv_iload_n hx hb d_R_isPast_7 rfl (lv_at hl 1 rfl) ?_
  obtain ⟨h8, hw⟩ := hw
  refine va_zald hx hb hK hP 15 1 rfl rfl h8 d_R_isPast_8 ?_
  refine lv_if_ne (tgt := 37) hx hb d_R_isPast_9 (by decide) (fun c9 => ?_) (fun c9 => ?_)
  · have hw := hw.1 c9
    exact jn37 _ _ _ hw hP hD hS (lv_sub hl [] rfl)
  · have hw := hw.2 c9
    refine lv_aload_n hx hb d_R_isPast_12 rfl (lv_at hl 0 rfl) ?_
    refine va_get (D := (dC, dI)) (ci := 3) (v := .int (xR.2 4)) (C := "ReleaseRows") (T := T_R) (N := 6) hx hb hts in_R hown hK hP 0 rfl rfl 4 (by decide) (hts _ k_161) (fun _ h9 => h9) rfl d_R_isPast_13 ?_
    refine lv_aload_n hx hb d_R_isPast_16 rfl (lv_at hl 0 rfl) ?_
    refine va_get (D := (dC, dI)) (ci := 3) (v := .ref (qI 0)) (C := "ReleaseRows") (T := T_R) (N := 6) hx hb hts in_R hown hK hP 0 rfl rfl 1 (by decide) (hts _ k_158) (fun _ h9 => h9) rfl d_R_isPast_17 ?_
    refine va_get (D := (dC, dI)) (ci := 0) (v := .ref (qI 9)) (C := "ReleaseRows$IncidentRows") (T := T_I) (N := 10) hx hb hts in_I hown hK hP 13 rfl rfl 8 (by decide) (hts _ k_118) (fun _ h9 => h9) rfl d_R_isPast_20 ?_
    refine lv_iload_n hx hb d_R_isPast_23 rfl (lv_at hl 1 rfl) ?_
    obtain ⟨h24, hw⟩ := hw
    refine va_iald hx hb hK hP 22 0 rfl rfl h24 d_R_isPast_24 ?_
    refine lv_isub hx hb d_R_isPast_25 ?_
    refine lv_aload_n hx hb d_R_isPast_26 rfl (lv_at hl 0 rfl) ?_
    refine va_get (D := (dC, dI)) (ci := 3) (v := .int (xR.2 5)) (C := "ReleaseRows") (T := T_R) (N := 6) hx hb hts in_R hown hK hP 0 rfl rfl 5 (by decide) (hts _ k_162) (fun _ h9 => h9) rfl d_R_isPast_27 ?_
    refine lv_icmp_le (tgt := 37) hx hb d_R_isPast_30 (by decide) (fun c30 => ?_) (fun c30 => ?_)
    · have hw := hw.1 c30
      exact jn37 _ _ _ hw hP hD hS (lv_sub hl [] rfl)
    · have hw := hw.2 c30
      refine lv_iconst (v := (1 : Int32)) hx hb d_R_isPast_33 (by decide) ?_
      refine lv_goto (tgt := 38) hx hb d_R_isPast_34 (by decide) ?_
      exact hret (1 : Int32) () _ _ _ _ _ _ (by decide) hw hP hD hS (Nat.le_of_ble_eq_true rfl) (Nat.le_of_ble_eq_true rfl) d_R_isPast_38

def wp_R_bring (xR : St) (xU : St) (xI : St) (xW : St) (a1 : Int32) (a2 : Int32) (post : (St × St) → Prop) : Prop := wp_U_goTo xU a1 a2 (xR.2 4) (fun u10 => (vp_in a2 20 ∧ (post (u10, (sA xI 2 a2.toNatClampNeg (vp_nar .boolean (1 : Int32)))))))
set_option maxHeartbeats 4000000 in
set_option maxRecDepth 100000 in
theorem c_R_bring (l : Launch) (dC : Nat → ClassId) (dI : Nat → Nat → Nat) (cI cZ cL : ClassId) (qR : Nat → Nat) (qU : Nat → Nat) (qI : Nat → Nat) (qW : Nat → Nat) (sz : Nat) (xR : St) (xU : St) (xI : St) (xW : St) (a1 : Int32) (a2 : Int32) (post : (St × St) → Prop) (hw : wp_R_bring xR xU xI xW a1 a2 post) : Met l y_R_bring w_R_bring ({ frames := 2, cells := 0, slots := 0, locals := 46 } : Room) (va_Pc [.ref (qR 0), .int a1, .int a2] (xP (dC, dI) vwCl [(cI, .int), (cZ, .boolean), (cL, .long)] (wd_RUIW qR qU qI qW cI cZ cL xR xU xI xW) sz)) (va_Qv post (xB (dC, dI) vwCl [(cI, .int), (cZ, .boolean), (cL, .long)] (va_A (wd_RUIW qR qU qI qW cI cZ cL xR xU xI xW) sz) (fun u => (wd_RUIW qR qU qI qW cI cZ cL xR u.1 u.2 xW))) (va_A (wd_RUIW qR qU qI qW cI cZ cL xR xU xI xW) sz)) 0 0 (va_A (wd_RUIW qR qU qI qW cI cZ cL xR xU xI xW) sz) := by
  refine x_ofV (cc := b_R_bring) (maxL := 3) (by decide) rfl (Nat.le_of_ble_eq_true rfl) (fun p e s m below meth c A Q hx hb hml hts hown hin hK hA hP hD hS hret ls hl => ?_)
  have hl : lv_has ls 3 [(0, .ref (qR 0)), (1, .int a1), (2, .int a2)] := hl
  unfold wp_R_bring at hw
  refine lv_aload_n hx hb d_R_bring_0 rfl (lv_at hl 0 rfl) ?_
  refine va_get (D := (dC, dI)) (ci := 3) (v := .ref (qU 0)) (C := "ReleaseRows") (T := T_R) (N := 6) hx hb hts in_R hown hK hP 0 rfl rfl 0 (by decide) (hts _ k_157) (fun _ h9 => h9) rfl d_R_bring_1 ?_
  refine lv_iload_n hx hb d_R_bring_4 rfl (lv_at hl 1 rfl) ?_
  refine lv_iload_n hx hb d_R_bring_5 rfl (lv_at hl 2 rfl) ?_
  refine lv_aload_n hx hb d_R_bring_6 rfl (lv_at hl 0 rfl) ?_
  refine va_get (D := (dC, dI)) (ci := 3) (v := .int (xR.2 4)) (C := "ReleaseRows") (T := T_R) (N := 6) hx hb hts in_R hown hK hP 0 rfl rfl 4 (by decide) (hts _ k_161) (fun _ h9 => h9) rfl d_R_bring_7 ?_
  refine x_cv (w2 := fun u10 => (wd_RUIW qR qU qI qW cI cZ cL xR u10 xI xW)) [2, 3, 4, 5, 6, 7, 8, 9, 10, 11, 12] [0, 1, 13, 14, 15, 16, 17, 18, 19, 20, 21, 22, 23, 24] [0, 1, 14, 15, 16, 17, 18, 19, 20, 21, 22, 23, 24, 2, 3, 4, 5, 6, 7, 8, 9, 10, 11, 12, 13] (va_runV (As := [.int a1, .int a2, .int (xR.2 4)]) (rest := []) ⟨hx, hb, hml, hown, hts⟩ (c_U_goTo l dC dI cI cZ cL qU _ xU a1 a2 (xR.2 4) _ hw) (cwV 3 hts (x_gV k_332 k_333 k_334 k_27 k_335) rfl rfl rfl (by decide +kernel) ⟨Nat.le_of_ble_eq_true rfl, Nat.le_of_ble_eq_true rfl⟩) ⟨x_blind, va_recv hK hP (ci := 1) (q0 := 2) rfl rfl, fun U hU hW => x_pre (isC := [2, 3, 4, 5, 6, 7, 8, 9, 10, 11, 12]) hK hP hD rfl rfl hU hW⟩ rfl rfl hl.1 rfl (lv_room (Nat.le_of_ble_eq_true rfl)) d_R_bring_10 ⟨Nat.le_of_ble_eq_true rfl, Nat.le_of_ble_eq_true rfl⟩) hP hD hS hA rfl rfl rfl (by decide) (fun _ => rfl) rfl (fun u10 H locs hw hP hD hS => ?_)
  refine lv_aload_n hx hb d_R_bring_13 rfl (lv_at hl 0 rfl) ?_
  refine va_get (D := (dC, dI)) (ci := 3) (v := .ref (qI 0)) (C := "ReleaseRows") (T := T_R) (N := 6) hx hb hts in_R hown hK hP 0 rfl rfl 1 (by decide) (hts _ k_158) (fun _ h9 => h9) rfl d_R_bring_14 ?_
  refine va_get (D := (dC, dI)) (ci := 0) (v := .ref (qI 3)) (C := "ReleaseRows$IncidentRows") (T := T_I) (N := 10) hx hb hts in_I hown hK hP 13 rfl rfl 2 (by decide) (hts _ k_106) (fun _ h9 => h9) rfl d_R_bring_17 ?_
  refine lv_iload_n hx hb d_R_bring_20 rfl (lv_at hl 2 rfl) ?_
  refine lv_iconst (v := (1 : Int32)) hx hb d_R_bring_21 (by decide) ?_
  obtain ⟨h22, hw⟩ := hw
  refine va_zast hx hb hK hP hD hS 16 1 rfl rfl h22 d_R_bring_22 (fun H locs hP hD hS => ?_)
  have hP : va_P (dC, dI) vwCl (wd_RUIW qR qU qI qW cI cZ cL xR u10 (sA xI 2 a2.toNatClampNeg (vp_nar .boolean (1 : Int32))) xW) H := hP
  have hD : va_D A (wd_RUIW qR qU qI qW cI cZ cL xR u10 (sA xI 2 a2.toNatClampNeg (vp_nar .boolean (1 : Int32))) xW) := hD
  exact hret (u10, (sA xI 2 a2.toNatClampNeg (vp_nar .boolean (1 : Int32)))) _ _ _ _ _ _ hw hP hD hS (Nat.le_of_ble_eq_true rfl) (Nat.le_of_ble_eq_true rfl) d_R_bring_23

def wl_R_giveUnitsToCalls_2 (xR : St) (xU : St) (xI : St) (xW : St) (post : (St × St × St) → Prop) : Nat → St → St → St → Int32 → Prop
  | 0 => fun _ _ _ _ => False
  | n9 + 1 => fun xU_ xI_ xW_ v1_ => ((30 : Int32) ≤ v1_ → (post (xU_, xI_, xW_))) ∧ (¬ (30 : Int32) ≤ v1_ → (((xW_.2 1) ≤ 0 → (post (xU_, xI_, xW_))) ∧ (¬ (xW_.2 1) ≤ 0 → (wp_U_nearestReady xU_ (fun r22 _ => ((¬ r22 = (-1 : Int32) → (wp_W_takeFirst xW_ (fun r38 u38 => (wp_R_bring xR xU_ xI_ u38 r22 r38 (fun u41 => (∀ v1_44 : Int32, v1_44 = v1_ + 1 → ((wl_R_giveUnitsToCalls_2 xR xU xI xW post n9) u41.1 u41.2 u38 v1_44))))))) ∧ (r22 = (-1 : Int32) → (post (xU_, xI_, xW_)))))))))
def wp_R_giveUnitsToCalls (xR : St) (xU : St) (xI : St) (xW : St) (post : (St × St × St) → Prop) : Prop := ∃ k9 : Nat, wl_R_giveUnitsToCalls_2 xR xU xI xW post k9 xU xI xW (0 : Int32)
set_option maxHeartbeats 4000000 in
set_option maxRecDepth 100000 in
theorem c_R_giveUnitsToCalls (l : Launch) (dC : Nat → ClassId) (dI : Nat → Nat → Nat) (cI cZ cL : ClassId) (qR : Nat → Nat) (qU : Nat → Nat) (qI : Nat → Nat) (qW : Nat → Nat) (sz : Nat) (xR : St) (xU : St) (xI : St) (xW : St) (post : (St × St × St) → Prop) (hw : wp_R_giveUnitsToCalls xR xU xI xW post) : Met l y_R_giveUnitsToCalls w_R_giveUnitsToCalls ({ frames := 3, cells := 0, slots := 0, locals := 81 } : Room) (va_Pc [.ref (qR 0)] (xP (dC, dI) vwCl [(cI, .int), (cZ, .boolean), (cL, .long)] (wd_RUIW qR qU qI qW cI cZ cL xR xU xI xW) sz)) (va_Qv post (xB (dC, dI) vwCl [(cI, .int), (cZ, .boolean), (cL, .long)] (va_A (wd_RUIW qR qU qI qW cI cZ cL xR xU xI xW) sz) (fun u => (wd_RUIW qR qU qI qW cI cZ cL xR u.1 u.2.1 u.2.2))) (va_A (wd_RUIW qR qU qI qW cI cZ cL xR xU xI xW) sz)) 0 0 (va_A (wd_RUIW qR qU qI qW cI cZ cL xR xU xI xW) sz) := by
  refine x_ofV (cc := b_R_giveUnitsToCalls) (maxL := 3) (by decide) rfl (Nat.le_of_ble_eq_true rfl) (fun p e s m below meth c A Q hx hb hml hts hown hin hK hA hP hD hS hret ls hl => ?_)
  have hl : lv_has ls 3 [(0, .ref (qR 0))] := hl
  have lp2 : ∀ (n2 : Nat) (xU_ : St) (xI_ : St) (xW_ : St) (v1_ : Int32) (H : Heap) (locs : List Loc) (ls : Array Slot), wl_R_giveUnitsToCalls_2 xR xU xI xW post n2 xU_ xI_ xW_ v1_ → va_P (dC, dI) vwCl (wd_RUIW qR qU qI qW cI cZ cL xR xU_ xI_ xW_) H → va_D A (wd_RUIW qR qU qI qW cI cZ cL xR xU_ xI_ xW_) → va_S A s.heap H locs → lv_has ls 3 [(0, .ref (qR 0)), (1, .int v1_)] → W p l e (headSpec w_R_giveUnitsToCalls ({ frames := 3, cells := 0, slots := 0, locals := 81 } : Room)).room s m ([.ref (qR 0)] : List Value).toArray below meth c H locs 0 0 Q (F0 m 2 ls []) := by
    intro n2
    induction n2 with
    | zero => intro xU_ xI_ xW_ v1_ H locs ls hw; exact hw.elim
    | succ n2 ih2 =>
      intro xU_ xI_ xW_ v1_ H locs ls hw hP hD hS hl
      unfold wl_R_giveUnitsToCalls_2 at hw
      refine lv_iload_n hx hb d_R_giveUnitsToCalls_2 rfl (lv_at hl 1 rfl) ?_
      refine lv_bipush (v := (30 : Int32)) hx hb d_R_giveUnitsToCalls_3 (by decide) ?_
      refine lv_icmp_ge (tgt := 50) hx hb d_R_giveUnitsToCalls_5 (by decide) (fun c5 => ?_) (fun c5 => ?_)
      · have hw := hw.1 c5
        exact hret (xU_, xI_, xW_) _ _ _ _ _ _ hw hP hD hS (Nat.le_of_ble_eq_true rfl) (Nat.le_of_ble_eq_true rfl) d_R_giveUnitsToCalls_50
      · have hw := hw.2 c5
        refine lv_aload_n hx hb d_R_giveUnitsToCalls_8 rfl (lv_at hl 0 rfl) ?_
        refine va_get (D := (dC, dI)) (ci := 3) (v := .ref (qW 0)) (C := "ReleaseRows") (T := T_R) (N := 6) hx hb hts in_R hown hK hP 0 rfl rfl 2 (by decide) (hts _ k_159) (fun _ h9 => h9) rfl d_R_giveUnitsToCalls_9 ?_
        refine va_get (D := (dC, dI)) (ci := 2) (v := .int (xW_.2 1)) (C := "ReleaseRows$WaitingRow") (T := T_W) (N := 2) hx hb hts in_W hown hK hP 23 rfl rfl 1 (by decide) (hts _ k_151) (fun _ h9 => h9) rfl d_R_giveUnitsToCalls_12 ?_
        refine lv_if_le (tgt := 50) hx hb d_R_giveUnitsToCalls_15 (by decide) (fun c15 => ?_) (fun c15 => ?_)
        · have hw := hw.1 c15
          exact hret (xU_, xI_, xW_) _ _ _ _ _ _ hw hP hD hS (Nat.le_of_ble_eq_true rfl) (Nat.le_of_ble_eq_true rfl) d_R_giveUnitsToCalls_50
        · have hw := hw.2 c15
          refine lv_aload_n hx hb d_R_giveUnitsToCalls_18 rfl (lv_at hl 0 rfl) ?_
          refine va_get (D := (dC, dI)) (ci := 3) (v := .ref (qU 0)) (C := "ReleaseRows") (T := T_R) (N := 6) hx hb hts in_R hown hK hP 0 rfl rfl 0 (by decide) (hts _ k_157) (fun _ h9 => h9) rfl d_R_giveUnitsToCalls_19 ?_
          refine x_ci (w2 := fun _ => (wd_RUIW qR qU qI qW cI cZ cL xR xU_ xI_ xW_)) [2, 3, 4, 5, 6, 7, 8, 9, 10, 11, 12] [0, 1, 13, 14, 15, 16, 17, 18, 19, 20, 21, 22, 23, 24] [0, 1, 14, 15, 16, 17, 18, 19, 20, 21, 22, 23, 24, 2, 3, 4, 5, 6, 7, 8, 9, 10, 11, 12, 13] (va_runV (As := []) (rest := []) ⟨hx, hb, hml, hown, hts⟩ (c_U_nearestReady l dC dI cI cZ cL qU _ xU_ _ hw) (cwV 0 hts (x_gV k_317 k_318 k_319 k_27 k_320) rfl rfl rfl (by decide +kernel) ⟨Nat.le_of_ble_eq_true rfl, Nat.le_of_ble_eq_true rfl⟩) ⟨x_blind, va_recv hK hP (ci := 1) (q0 := 2) rfl rfl, fun U hU hW => x_pre (isC := [2, 3, 4, 5, 6, 7, 8, 9, 10, 11, 12]) hK hP hD rfl rfl hU hW⟩ rfl rfl hl.1 rfl (lv_room (Nat.le_of_ble_eq_true rfl)) d_R_giveUnitsToCalls_22 ⟨Nat.le_of_ble_eq_true rfl, Nat.le_of_ble_eq_true rfl⟩) hP hD hS hA rfl rfl rfl (by decide) (fun _ => rfl) rfl (fun r22 _ H locs hw hP hD hS => ?_)
          refine lv_istore_n (lv' := [(2, .int r22), (0, .ref (qR 0)), (1, .int v1_)]) hx hb d_R_giveUnitsToCalls_25 rfl hl (by decide) rfl (fun ls hl => ?_)
          refine lv_iload_n hx hb d_R_giveUnitsToCalls_26 rfl (lv_at hl 0 rfl) ?_
          refine lv_iconst (v := (-1 : Int32)) hx hb d_R_giveUnitsToCalls_27 (by decide) ?_
          refine lv_icmp_ne (tgt := 32) hx hb d_R_giveUnitsToCalls_28 (by decide) (fun c28 => ?_) (fun c28 => ?_)
          · have hw := hw.1 c28
            refine lv_aload_n hx hb d_R_giveUnitsToCalls_32 rfl (lv_at hl 1 rfl) ?_
            refine lv_iload_n hx hb d_R_giveUnitsToCalls_33 rfl (lv_at hl 0 rfl) ?_
            refine lv_aload_n hx hb d_R_giveUnitsToCalls_34 rfl (lv_at hl 1 rfl) ?_
            refine va_get (D := (dC, dI)) (ci := 3) (v := .ref (qW 0)) (C := "ReleaseRows") (T := T_R) (N := 6) hx hb hts in_R hown hK hP 0 rfl rfl 2 (by decide) (hts _ k_159) (fun _ h9 => h9) rfl d_R_giveUnitsToCalls_35 ?_
            refine x_ci (w2 := fun u38 => (wd_RUIW qR qU qI qW cI cZ cL xR xU_ xI_ u38)) [23, 24] [0, 1, 2, 3, 4, 5, 6, 7, 8, 9, 10, 11, 12, 13, 14, 15, 16, 17, 18, 19, 20, 21, 22] [0, 1, 2, 3, 4, 5, 6, 7, 8, 9, 10, 11, 12, 13, 14, 15, 16, 17, 18, 19, 20, 21, 22, 23, 24] (va_runV (As := []) (rest := [.int r22, .ref (qR 0)]) ⟨hx, hb, hml, hown, hts⟩ (c_W_takeFirst l dC dI cI cZ cL qW _ xW_ _ hw) (cwV 0 hts (x_gV k_321 k_322 k_323 k_29 k_324) rfl rfl rfl (by decide +kernel) ⟨Nat.le_of_ble_eq_true rfl, Nat.le_of_ble_eq_true rfl⟩) ⟨x_blind, va_recv hK hP (ci := 2) (q0 := 23) rfl rfl, fun U hU hW => x_pre (isC := [23, 24]) hK hP hD rfl rfl hU hW⟩ rfl rfl hl.1 rfl (lv_room (Nat.le_of_ble_eq_true rfl)) d_R_giveUnitsToCalls_38 ⟨Nat.le_of_ble_eq_true rfl, Nat.le_of_ble_eq_true rfl⟩) hP hD hS hA rfl rfl rfl (by decide) (fun _ => rfl) rfl (fun r38 u38 H locs hw hP hD hS => ?_)
            refine x_cv (w2 := fun u41 => (wd_RUIW qR qU qI qW cI cZ cL xR u41.1 u41.2 u38)) [0, 1, 2, 3, 4, 5, 6, 7, 8, 9, 10, 11, 12, 13, 14, 15, 16, 17, 18, 19, 20, 21, 22, 23, 24] [] [0, 1, 2, 3, 4, 5, 6, 7, 8, 9, 10, 11, 12, 13, 14, 15, 16, 17, 18, 19, 20, 21, 22, 23, 24] (va_runV (As := [.int r22, .int r38]) (rest := []) ⟨hx, hb, hml, hown, hts⟩ (c_R_bring l dC dI cI cZ cL qR qU qI qW _ xR xU_ xI_ u38 r22 r38 _ hw) (cwV 2 hts (x_gV k_328 k_330 k_5 k_26 k_331) rfl rfl rfl (by decide +kernel) ⟨Nat.le_of_ble_eq_true rfl, Nat.le_of_ble_eq_true rfl⟩) ⟨x_blind, va_recv hK hP (ci := 3) (q0 := 0) rfl rfl, fun U hU hW => x_pre (isC := [0, 1, 2, 3, 4, 5, 6, 7, 8, 9, 10, 11, 12, 13, 14, 15, 16, 17, 18, 19, 20, 21, 22, 23, 24]) hK hP hD rfl rfl hU hW⟩ rfl rfl hl.1 rfl (lv_room (Nat.le_of_ble_eq_true rfl)) d_R_giveUnitsToCalls_41 ⟨Nat.le_of_ble_eq_true rfl, Nat.le_of_ble_eq_true rfl⟩) hP hD hS hA rfl rfl rfl (by decide) (fun _ => rfl) rfl (fun u41 H locs hw hP hD hS => ?_)
            obtain ⟨v1_44, ev1_44⟩ : ∃ y : Int32, y = v1_ + 1 := ⟨_, rfl⟩
            have hw := hw v1_44 ev1_44
            refine lv_iinc (v := v1_44) (lv' := [(1, .int v1_44), (2, .int r22), (0, .ref (qR 0))]) hx hb d_R_giveUnitsToCalls_44 hl (k := 2) rfl (by rw [ev1_44]; rfl) (by decide) rfl (fun ls hl => ?_)
            refine lv_goto (tgt := 2) hx hb d_R_giveUnitsToCalls_47 (by decide) ?_
            exact ih2 u41.1 u41.2 u38 v1_44 _ _ _ hw hP hD hS (lv_sub hl [2, 0] rfl)
          · have hw := hw.2 c28
            exact hret (xU_, xI_, xW_) _ _ _ _ _ _ hw hP hD hS (Nat.le_of_ble_eq_true rfl) (Nat.le_of_ble_eq_true rfl) d_R_giveUnitsToCalls_31
  unfold wp_R_giveUnitsToCalls at hw
  refine lv_iconst (v := (0 : Int32)) hx hb d_R_giveUnitsToCalls_0 (by decide) ?_
  refine lv_istore_n (lv' := [(1, .int (0 : Int32)), (0, .ref (qR 0))]) hx hb d_R_giveUnitsToCalls_1 rfl hl (by decide) rfl (fun ls hl => ?_)
  obtain ⟨n9, hw⟩ := hw
  exact lp2 n9 xU xI xW (0 : Int32) _ _ _ hw hP hD hS (lv_sub hl [1, 0] rfl)

def wj_R_closeIncidents_67 (xR : St) (xU : St) (xI : St) (xW : St) (post : Int32 → St → Prop) (rec4 : St → Int32 → Int32 → Prop) (xI_ : St) (v1_ : Int32) (v2_ : Int32) : Prop := ∀ v2_67 : Int32, v2_67 = v2_ + 1 → (rec4 xI_ v1_ v2_67)
def wl_R_closeIncidents_4 (xR : St) (xU : St) (xI : St) (xW : St) (post : Int32 → St → Prop) : Nat → St → Int32 → Int32 → Prop
  | 0 => fun _ _ _ => False
  | n9 + 1 => fun xI_ v1_ v2_ => ((xI_.2 9) ≤ v2_ → (post v1_ xI_)) ∧ (¬ (xI_.2 9) ≤ v2_ → (wp_I_mayClose xI_ v2_ (xR.2 4) (fun r24 _ => ((r24 = 0 → (wj_R_closeIncidents_67 xR xU xI xW post (wl_R_closeIncidents_4 xR xU xI xW post n9) xI_ v1_ v2_)) ∧ (¬ r24 = 0 → (wp_U_countAt xU v2_ (fun r35 _ => ((¬ r35 = 0 → (wj_R_closeIncidents_67 xR xU xI xW post (wl_R_closeIncidents_4 xR xU xI xW post n9) xI_ v1_ v2_)) ∧ (r35 = 0 → (wp_W_countFor xW v2_ (fun r46 _ => ((¬ r46 = 0 → (wj_R_closeIncidents_67 xR xU xI xW post (wl_R_closeIncidents_4 xR xU xI xW post n9) xI_ v1_ v2_)) ∧ (r46 = 0 → (wp_I_close xI_ v2_ (xR.2 4) (fun u61 => (∀ v1_64 : Int32, v1_64 = v1_ + 1 → (wj_R_closeIncidents_67 xR xU xI xW post (wl_R_closeIncidents_4 xR xU xI xW post n9) u61 v1_64 v2_)))))))))))))))))
def wp_R_closeIncidents (xR : St) (xU : St) (xI : St) (xW : St) (post : Int32 → St → Prop) : Prop := ∃ k9 : Nat, wl_R_closeIncidents_4 xR xU xI xW post k9 xI (0 : Int32) (0 : Int32)
set_option maxHeartbeats 4000000 in
set_option maxRecDepth 100000 in
theorem c_R_closeIncidents (l : Launch) (dC : Nat → ClassId) (dI : Nat → Nat → Nat) (cI cZ cL : ClassId) (qR : Nat → Nat) (qU : Nat → Nat) (qI : Nat → Nat) (qW : Nat → Nat) (sz : Nat) (xR : St) (xU : St) (xI : St) (xW : St) (post : Int32 → St → Prop) (hw : wp_R_closeIncidents xR xU xI xW post) : Met l y_R_closeIncidents w_R_closeIncidents ({ frames := 1, cells := 0, slots := 0, locals := 23 } : Room) (va_Pc [.ref (qR 0)] (xP (dC, dI) vwCl [(cI, .int), (cZ, .boolean), (cL, .long)] (wd_RUIW qR qU qI qW cI cZ cL xR xU xI xW) sz)) (va_Qi post (xB (dC, dI) vwCl [(cI, .int), (cZ, .boolean), (cL, .long)] (va_A (wd_RUIW qR qU qI qW cI cZ cL xR xU xI xW) sz) (fun u => (wd_RUIW qR qU qI qW cI cZ cL xR xU u xW))) (va_A (wd_RUIW qR qU qI qW cI cZ cL xR xU xI xW) sz)) 0 0 (va_A (wd_RUIW qR qU qI qW cI cZ cL xR xU xI xW) sz) := by
  refine x_ofI (cc := b_R_closeIncidents) (maxL := 3) (by decide) rfl (Nat.le_of_ble_eq_true rfl) (fun p e s m below meth c A Q hx hb hml hts hown hK hA hP hD hS hret ls hl => ?_)
  have hl : lv_has ls 3 [(0, .ref (qR 0))] := hl
  have lp4 : ∀ (n4 : Nat) (xI_ : St) (v1_ : Int32) (v2_ : Int32) (H : Heap) (locs : List Loc) (ls : Array Slot), wl_R_closeIncidents_4 xR xU xI xW post n4 xI_ v1_ v2_ → va_P (dC, dI) vwCl (wd_RUIW qR qU qI qW cI cZ cL xR xU xI_ xW) H → va_D A (wd_RUIW qR qU qI qW cI cZ cL xR xU xI_ xW) → va_S A s.heap H locs → lv_has ls 3 [(0, .ref (qR 0)), (1, .int v1_), (2, .int v2_)] → W p l e (headSpec w_R_closeIncidents ({ frames := 1, cells := 0, slots := 0, locals := 23 } : Room)).room s m ([.ref (qR 0)] : List Value).toArray below meth c H locs 0 0 Q (F0 m 4 ls []) := by
    intro n4
    induction n4 with
    | zero => intro xI_ v1_ v2_ H locs ls hw; exact hw.elim
    | succ n4 ih4 =>
      have jn67 : ∀ (xI_ : St) (v1_ : Int32) (v2_ : Int32) (H : Heap) (locs : List Loc) (ls : Array Slot), wj_R_closeIncidents_67 xR xU xI xW post (wl_R_closeIncidents_4 xR xU xI xW post n4) xI_ v1_ v2_ → va_P (dC, dI) vwCl (wd_RUIW qR qU qI qW cI cZ cL xR xU xI_ xW) H → va_D A (wd_RUIW qR qU qI qW cI cZ cL xR xU xI_ xW) → va_S A s.heap H locs → lv_has ls 3 [(0, .ref (qR 0)), (1, .int v1_), (2, .int v2_)] → W p l e (headSpec w_R_closeIncidents ({ frames := 1, cells := 0, slots := 0, locals := 23 } : Room)).room s m ([.ref (qR 0)] : List Value).toArray below meth c H locs 0 0 Q (F0 m 67 ls []) := by
        intro xI_ v1_ v2_ H locs ls hw hP hD hS hl
        unfold wj_R_closeIncidents_67 at hw
        obtain ⟨v2_67, ev2_67⟩ : ∃ y : Int32, y = v2_ + 1 := ⟨_, rfl⟩
        have hw := hw v2_67 ev2_67
        refine lv_iinc (v := v2_67) (lv' := [(2, .int v2_67), (0, .ref (qR 0)), (1, .int v1_)]) hx hb d_R_closeIncidents_67 hl (k := 2) rfl (by rw [ev2_67]; rfl) (by decide) rfl (fun ls hl => ?_)
        refine lv_goto (tgt := 4) hx hb d_R_closeIncidents_70 (by decide) ?_
        exact ih4 xI_ v1_ v2_67 _ _ _ hw hP hD hS (lv_sub hl [1, 2, 0] rfl)
      intro xI_ v1_ v2_ H locs ls hw hP hD hS hl
      unfold wl_R_closeIncidents_4 at hw
      refine lv_iload_n hx hb d_R_closeIncidents_4 rfl (lv_at hl 2 rfl) ?_
      refine lv_aload_n hx hb d_R_closeIncidents_5 rfl (lv_at hl 0 rfl) ?_
      refine va_get (D := (dC, dI)) (ci := 3) (v := .ref (qI 0)) (C := "ReleaseRows") (T := T_R) (N := 6) hx hb hts in_R hown hK hP 0 rfl rfl 1 (by decide) (hts _ k_158) (fun _ h9 => h9) rfl d_R_closeIncidents_6 ?_
      refine va_get (D := (dC, dI)) (ci := 0) (v := .int (xI_.2 9)) (C := "ReleaseRows$IncidentRows") (T := T_I) (N := 10) hx hb hts in_I hown hK hP 13 rfl rfl 9 (by decide) (hts _ k_120) (fun _ h9 => h9) rfl d_R_closeIncidents_9 ?_
      refine lv_icmp_ge (tgt := 73) hx hb d_R_closeIncidents_12 (by decide) (fun c12 => ?_) (fun c12 => ?_)
      · have hw := hw.1 c12
        refine lv_iload_n hx hb d_R_closeIncidents_73 rfl (lv_at hl 1 rfl) ?_
        exact hret v1_ xI_ _ _ _ _ _ _ rfl hw hP hD hS (Nat.le_of_ble_eq_true rfl) (Nat.le_of_ble_eq_true rfl) d_R_closeIncidents_74
      · have hw := hw.2 c12
        refine lv_aload_n hx hb d_R_closeIncidents_15 rfl (lv_at hl 0 rfl) ?_
        refine va_get (D := (dC, dI)) (ci := 3) (v := .ref (qI 0)) (C := "ReleaseRows") (T := T_R) (N := 6) hx hb hts in_R hown hK hP 0 rfl rfl 1 (by decide) (hts _ k_158) (fun _ h9 => h9) rfl d_R_closeIncidents_16 ?_
        refine lv_iload_n hx hb d_R_closeIncidents_19 rfl (lv_at hl 2 rfl) ?_
        refine lv_aload_n hx hb d_R_closeIncidents_20 rfl (lv_at hl 0 rfl) ?_
        refine va_get (D := (dC, dI)) (ci := 3) (v := .int (xR.2 4)) (C := "ReleaseRows") (T := T_R) (N := 6) hx hb hts in_R hown hK hP 0 rfl rfl 4 (by decide) (hts _ k_161) (fun _ h9 => h9) rfl d_R_closeIncidents_21 ?_
        refine x_ci (w2 := fun _ => (wd_RUIW qR qU qI qW cI cZ cL xR xU xI_ xW)) [13, 14, 15, 16, 17, 18, 19, 20, 21, 22] [0, 1, 2, 3, 4, 5, 6, 7, 8, 9, 10, 11, 12, 23, 24] [0, 1, 2, 3, 4, 5, 6, 7, 8, 9, 10, 11, 12, 15, 16, 17, 18, 19, 20, 21, 22, 23, 24, 13, 14] (va_runV (As := [.int v2_, .int (xR.2 4)]) (rest := []) ⟨hx, hb, hml, hown, hts⟩ (c_I_mayClose l dC dI cI cZ cL qI _ xI_ v2_ (xR.2 4) _ hw) (cwV 2 hts (x_gV k_340 k_341 k_342 k_28 k_343) rfl rfl rfl (by decide +kernel) ⟨Nat.le_of_ble_eq_true rfl, Nat.le_of_ble_eq_true rfl⟩) ⟨x_blind, va_recv hK hP (ci := 0) (q0 := 13) rfl rfl, fun U hU hW => x_pre (isC := [13, 14, 15, 16, 17, 18, 19, 20, 21, 22]) hK hP hD rfl rfl hU hW⟩ rfl rfl hl.1 rfl (lv_room (Nat.le_of_ble_eq_true rfl)) d_R_closeIncidents_24 ⟨Nat.le_of_ble_eq_true rfl, Nat.le_of_ble_eq_true rfl⟩) hP hD hS hA rfl rfl rfl (by decide) (fun _ => rfl) rfl (fun r24 _ H locs hw hP hD hS => ?_)
        refine lv_if_eq (tgt := 67) hx hb d_R_closeIncidents_27 (by decide) (fun c27 => ?_) (fun c27 => ?_)
        · have hw := hw.1 c27
          exact jn67 xI_ v1_ v2_ _ _ _ hw hP hD hS hl
        · have hw := hw.2 c27
          refine lv_aload_n hx hb d_R_closeIncidents_30 rfl (lv_at hl 0 rfl) ?_
          refine va_get (D := (dC, dI)) (ci := 3) (v := .ref (qU 0)) (C := "ReleaseRows") (T := T_R) (N := 6) hx hb hts in_R hown hK hP 0 rfl rfl 0 (by decide) (hts _ k_157) (fun _ h9 => h9) rfl d_R_closeIncidents_31 ?_
          refine lv_iload_n hx hb d_R_closeIncidents_34 rfl (lv_at hl 2 rfl) ?_
          refine x_ci (w2 := fun _ => (wd_RUIW qR qU qI qW cI cZ cL xR xU xI_ xW)) [2, 3, 4, 5, 6, 7, 8, 9, 10, 11, 12] [0, 1, 13, 14, 15, 16, 17, 18, 19, 20, 21, 22, 23, 24] [0, 1, 14, 15, 16, 17, 18, 19, 20, 21, 22, 23, 24, 2, 3, 4, 5, 6, 7, 8, 9, 10, 11, 12, 13] (va_runV (As := [.int v2_]) (rest := []) ⟨hx, hb, hml, hown, hts⟩ (c_U_countAt l dC dI cI cZ cL qU _ xU v2_ _ hw) (cwV 1 hts (x_gV k_344 k_345 k_346 k_27 k_347) rfl rfl rfl (by decide +kernel) ⟨Nat.le_of_ble_eq_true rfl, Nat.le_of_ble_eq_true rfl⟩) ⟨x_blind, va_recv hK hP (ci := 1) (q0 := 2) rfl rfl, fun U hU hW => x_pre (isC := [2, 3, 4, 5, 6, 7, 8, 9, 10, 11, 12]) hK hP hD rfl rfl hU hW⟩ rfl rfl hl.1 rfl (lv_room (Nat.le_of_ble_eq_true rfl)) d_R_closeIncidents_35 ⟨Nat.le_of_ble_eq_true rfl, Nat.le_of_ble_eq_true rfl⟩) hP hD hS hA rfl rfl rfl (by decide) (fun _ => rfl) rfl (fun r35 _ H locs hw hP hD hS => ?_)
          refine lv_if_ne (tgt := 67) hx hb d_R_closeIncidents_38 (by decide) (fun c38 => ?_) (fun c38 => ?_)
          · have hw := hw.1 c38
            exact jn67 xI_ v1_ v2_ _ _ _ hw hP hD hS hl
          · have hw := hw.2 c38
            refine lv_aload_n hx hb d_R_closeIncidents_41 rfl (lv_at hl 0 rfl) ?_
            refine va_get (D := (dC, dI)) (ci := 3) (v := .ref (qW 0)) (C := "ReleaseRows") (T := T_R) (N := 6) hx hb hts in_R hown hK hP 0 rfl rfl 2 (by decide) (hts _ k_159) (fun _ h9 => h9) rfl d_R_closeIncidents_42 ?_
            refine lv_iload_n hx hb d_R_closeIncidents_45 rfl (lv_at hl 2 rfl) ?_
            refine x_ci (w2 := fun _ => (wd_RUIW qR qU qI qW cI cZ cL xR xU xI_ xW)) [23, 24] [0, 1, 2, 3, 4, 5, 6, 7, 8, 9, 10, 11, 12, 13, 14, 15, 16, 17, 18, 19, 20, 21, 22] [0, 1, 2, 3, 4, 5, 6, 7, 8, 9, 10, 11, 12, 13, 14, 15, 16, 17, 18, 19, 20, 21, 22, 23, 24] (va_runV (As := [.int v2_]) (rest := []) ⟨hx, hb, hml, hown, hts⟩ (c_W_countFor l dC dI cI cZ cL qW _ xW v2_ _ hw) (cwV 1 hts (x_gV k_348 k_349 k_350 k_29 k_351) rfl rfl rfl (by decide +kernel) ⟨Nat.le_of_ble_eq_true rfl, Nat.le_of_ble_eq_true rfl⟩) ⟨x_blind, va_recv hK hP (ci := 2) (q0 := 23) rfl rfl, fun U hU hW => x_pre (isC := [23, 24]) hK hP hD rfl rfl hU hW⟩ rfl rfl hl.1 rfl (lv_room (Nat.le_of_ble_eq_true rfl)) d_R_closeIncidents_46 ⟨Nat.le_of_ble_eq_true rfl, Nat.le_of_ble_eq_true rfl⟩) hP hD hS hA rfl rfl rfl (by decide) (fun _ => rfl) rfl (fun r46 _ H locs hw hP hD hS => ?_)
            refine lv_if_ne (tgt := 67) hx hb d_R_closeIncidents_49 (by decide) (fun c49 => ?_) (fun c49 => ?_)
            · have hw := hw.1 c49
              exact jn67 xI_ v1_ v2_ _ _ _ hw hP hD hS hl
            · have hw := hw.2 c49
              refine lv_aload_n hx hb d_R_closeIncidents_52 rfl (lv_at hl 0 rfl) ?_
              refine va_get (D := (dC, dI)) (ci := 3) (v := .ref (qI 0)) (C := "ReleaseRows") (T := T_R) (N := 6) hx hb hts in_R hown hK hP 0 rfl rfl 1 (by decide) (hts _ k_158) (fun _ h9 => h9) rfl d_R_closeIncidents_53 ?_
              refine lv_iload_n hx hb d_R_closeIncidents_56 rfl (lv_at hl 2 rfl) ?_
              refine lv_aload_n hx hb d_R_closeIncidents_57 rfl (lv_at hl 0 rfl) ?_
              refine va_get (D := (dC, dI)) (ci := 3) (v := .int (xR.2 4)) (C := "ReleaseRows") (T := T_R) (N := 6) hx hb hts in_R hown hK hP 0 rfl rfl 4 (by decide) (hts _ k_161) (fun _ h9 => h9) rfl d_R_closeIncidents_58 ?_
              refine x_cv (w2 := fun u61 => (wd_RUIW qR qU qI qW cI cZ cL xR xU u61 xW)) [13, 14, 15, 16, 17, 18, 19, 20, 21, 22] [0, 1, 2, 3, 4, 5, 6, 7, 8, 9, 10, 11, 12, 23, 24] [0, 1, 2, 3, 4, 5, 6, 7, 8, 9, 10, 11, 12, 15, 16, 17, 18, 19, 20, 21, 22, 23, 24, 13, 14] (va_runV (As := [.int v2_, .int (xR.2 4)]) (rest := []) ⟨hx, hb, hml, hown, hts⟩ (c_I_close l dC dI cI cZ cL qI _ xI_ v2_ (xR.2 4) _ hw) (cwV 2 hts (x_gV k_352 k_353 k_354 k_28 k_355) rfl rfl rfl (by decide +kernel) ⟨Nat.le_of_ble_eq_true rfl, Nat.le_of_ble_eq_true rfl⟩) ⟨x_blind, va_recv hK hP (ci := 0) (q0 := 13) rfl rfl, fun U hU hW => x_pre (isC := [13, 14, 15, 16, 17, 18, 19, 20, 21, 22]) hK hP hD rfl rfl hU hW⟩ rfl rfl hl.1 rfl (lv_room (Nat.le_of_ble_eq_true rfl)) d_R_closeIncidents_61 ⟨Nat.le_of_ble_eq_true rfl, Nat.le_of_ble_eq_true rfl⟩) hP hD hS hA rfl rfl rfl (by decide) (fun _ => rfl) rfl (fun u61 H locs hw hP hD hS => ?_)
              obtain ⟨v1_64, ev1_64⟩ : ∃ y : Int32, y = v1_ + 1 := ⟨_, rfl⟩
              have hw := hw v1_64 ev1_64
              refine lv_iinc (v := v1_64) (lv' := [(1, .int v1_64), (0, .ref (qR 0)), (2, .int v2_)]) hx hb d_R_closeIncidents_64 hl (k := 1) rfl (by rw [ev1_64]; rfl) (by decide) rfl (fun ls hl => ?_)
              exact jn67 u61 v1_64 v2_ _ _ _ hw hP hD hS (lv_sub hl [1, 0, 2] rfl)
  unfold wp_R_closeIncidents at hw
  refine lv_iconst (v := (0 : Int32)) hx hb d_R_closeIncidents_0 (by decide) ?_
  refine lv_istore_n (lv' := [(1, .int (0 : Int32)), (0, .ref (qR 0))]) hx hb d_R_closeIncidents_1 rfl hl (by decide) rfl (fun ls hl => ?_)
  refine lv_iconst (v := (0 : Int32)) hx hb d_R_closeIncidents_2 (by decide) ?_
  refine lv_istore_n (lv' := [(2, .int (0 : Int32)), (1, .int (0 : Int32)), (0, .ref (qR 0))]) hx hb d_R_closeIncidents_3 rfl hl (by decide) rfl (fun ls hl => ?_)
  obtain ⟨n9, hw⟩ := hw
  exact lp4 n9 xI (0 : Int32) (0 : Int32) _ _ _ hw hP hD hS (lv_sub hl [2, 1, 0] rfl)

def wl_R_settle_2 (xR : St) (xU : St) (xI : St) (xW : St) (post : Int32 → (St × St × St × St) → Prop) : Nat → St → St → St → St → Int32 → Prop
  | 0 => fun _ _ _ _ _ => False
  | n9 + 1 => fun xR_ xU_ xI_ xW_ v1_ => ((xU_.2 10) ≤ v1_ → (wp_R_giveUnitsToCalls xR_ xU_ xI_ xW_ (fun u36 => (wp_R_closeIncidents xR_ u36.1 u36.2.1 u36.2.2 (fun r40 u40 => (post r40 (xR_, u36.1, u40, u36.2.2))))))) ∧ (¬ (xU_.2 10) ≤ v1_ → (wp_U_goOn xU_ (xR_.1 3) v1_ (xR_.2 4) (fun u26 => (∀ v1_29 : Int32, v1_29 = v1_ + 1 → ((wl_R_settle_2 xR xU xI xW post n9) (sR xR_ 3 u26.2) u26.1 xI_ xW_ v1_29)))))
def wp_R_settle (xR : St) (xU : St) (xI : St) (xW : St) (post : Int32 → (St × St × St × St) → Prop) : Prop := ∃ k9 : Nat, wl_R_settle_2 xR xU xI xW post k9 xR xU xI xW (0 : Int32)
set_option maxHeartbeats 4000000 in
set_option maxRecDepth 100000 in
theorem c_R_settle (l : Launch) (dC : Nat → ClassId) (dI : Nat → Nat → Nat) (cI cZ cL : ClassId) (qR : Nat → Nat) (qU : Nat → Nat) (qI : Nat → Nat) (qW : Nat → Nat) (sz : Nat) (xR : St) (xU : St) (xI : St) (xW : St) (post : Int32 → (St × St × St × St) → Prop) (hw : wp_R_settle xR xU xI xW post) : Met l y_R_settle w_R_settle ({ frames := 4, cells := 0, slots := 0, locals := 103 } : Room) (va_Pc [.ref (qR 0)] (xP (dC, dI) vwCl [(cI, .int), (cZ, .boolean), (cL, .long)] (wd_RUIW qR qU qI qW cI cZ cL xR xU xI xW) sz)) (va_Qi post (xB (dC, dI) vwCl [(cI, .int), (cZ, .boolean), (cL, .long)] (va_A (wd_RUIW qR qU qI qW cI cZ cL xR xU xI xW) sz) (fun u => (wd_RUIW qR qU qI qW cI cZ cL u.1 u.2.1 u.2.2.1 u.2.2.2))) (va_A (wd_RUIW qR qU qI qW cI cZ cL xR xU xI xW) sz)) 0 0 (va_A (wd_RUIW qR qU qI qW cI cZ cL xR xU xI xW) sz) := by
  refine x_ofI (cc := b_R_settle) (maxL := 2) (by decide) rfl (Nat.le_of_ble_eq_true rfl) (fun p e s m below meth c A Q hx hb hml hts hown hK hA hP hD hS hret ls hl => ?_)
  have hl : lv_has ls 2 [(0, .ref (qR 0))] := hl
  have lp2 : ∀ (n2 : Nat) (xR_ : St) (xU_ : St) (xI_ : St) (xW_ : St) (v1_ : Int32) (H : Heap) (locs : List Loc) (ls : Array Slot), wl_R_settle_2 xR xU xI xW post n2 xR_ xU_ xI_ xW_ v1_ → va_P (dC, dI) vwCl (wd_RUIW qR qU qI qW cI cZ cL xR_ xU_ xI_ xW_) H → va_D A (wd_RUIW qR qU qI qW cI cZ cL xR_ xU_ xI_ xW_) → va_S A s.heap H locs → lv_has ls 2 [(0, .ref (qR 0)), (1, .int v1_)] → W p l e (headSpec w_R_settle ({ frames := 4, cells := 0, slots := 0, locals := 103 } : Room)).room s m ([.ref (qR 0)] : List Value).toArray below meth c H locs 0 0 Q (F0 m 2 ls []) := by
    intro n2
    induction n2 with
    | zero => intro xR_ xU_ xI_ xW_ v1_ H locs ls hw; exact hw.elim
    | succ n2 ih2 =>
      intro xR_ xU_ xI_ xW_ v1_ H locs ls hw hP hD hS hl
      unfold wl_R_settle_2 at hw
      refine lv_iload_n hx hb d_R_settle_2 rfl (lv_at hl 1 rfl) ?_
      refine lv_aload_n hx hb d_R_settle_3 rfl (lv_at hl 0 rfl) ?_
      refine va_get (D := (dC, dI)) (ci := 3) (v := .ref (qU 0)) (C := "ReleaseRows") (T := T_R) (N := 6) hx hb hts in_R hown hK hP 0 rfl rfl 0 (by decide) (hts _ k_157) (fun _ h9 => h9) rfl d_R_settle_4 ?_
      refine va_get (D := (dC, dI)) (ci := 1) (v := .int (xU_.2 10)) (C := "ReleaseRows$UnitRows") (T := T_U) (N := 11) hx hb hts in_U hown hK hP 2 rfl rfl 10 (by decide) (hts _ k_71) (fun _ h9 => h9) rfl d_R_settle_7 ?_
      refine lv_icmp_ge (tgt := 35) hx hb d_R_settle_10 (by decide) (fun c10 => ?_) (fun c10 => ?_)
      · have hw := hw.1 c10
        refine lv_aload_n hx hb d_R_settle_35 rfl (lv_at hl 0 rfl) ?_
        refine x_cv (w2 := fun u36 => (wd_RUIW qR qU qI qW cI cZ cL xR_ u36.1 u36.2.1 u36.2.2)) [0, 1, 2, 3, 4, 5, 6, 7, 8, 9, 10, 11, 12, 13, 14, 15, 16, 17, 18, 19, 20, 21, 22, 23, 24] [] [0, 1, 2, 3, 4, 5, 6, 7, 8, 9, 10, 11, 12, 13, 14, 15, 16, 17, 18, 19, 20, 21, 22, 23, 24] (va_runV (As := []) (rest := []) ⟨hx, hb, hml, hown, hts⟩ (c_R_giveUnitsToCalls l dC dI cI cZ cL qR qU qI qW _ xR_ xU_ xI_ xW_ _ hw) (cwV 0 hts (x_gV k_313 k_315 k_4 k_26 k_316) rfl rfl rfl (by decide +kernel) ⟨Nat.le_of_ble_eq_true rfl, Nat.le_of_ble_eq_true rfl⟩) ⟨x_blind, va_recv hK hP (ci := 3) (q0 := 0) rfl rfl, fun U hU hW => x_pre (isC := [0, 1, 2, 3, 4, 5, 6, 7, 8, 9, 10, 11, 12, 13, 14, 15, 16, 17, 18, 19, 20, 21, 22, 23, 24]) hK hP hD rfl rfl hU hW⟩ rfl rfl hl.1 rfl (lv_room (Nat.le_of_ble_eq_true rfl)) d_R_settle_36 ⟨Nat.le_of_ble_eq_true rfl, Nat.le_of_ble_eq_true rfl⟩) hP hD hS hA rfl rfl rfl (by decide) (fun _ => rfl) rfl (fun u36 H locs hw hP hD hS => ?_)
        refine lv_aload_n hx hb d_R_settle_39 rfl (lv_at hl 0 rfl) ?_
        refine x_ci (w2 := fun u40 => (wd_RUIW qR qU qI qW cI cZ cL xR_ u36.1 u40 u36.2.2)) [0, 1, 2, 3, 4, 5, 6, 7, 8, 9, 10, 11, 12, 13, 14, 15, 16, 17, 18, 19, 20, 21, 22, 23, 24] [] [0, 1, 2, 3, 4, 5, 6, 7, 8, 9, 10, 11, 12, 13, 14, 15, 16, 17, 18, 19, 20, 21, 22, 23, 24] (va_runV (As := []) (rest := []) ⟨hx, hb, hml, hown, hts⟩ (c_R_closeIncidents l dC dI cI cZ cL qR qU qI qW _ xR_ u36.1 u36.2.1 u36.2.2 _ hw) (cwV 0 hts (x_gV k_336 k_338 k_6 k_26 k_339) rfl rfl rfl (by decide +kernel) ⟨Nat.le_of_ble_eq_true rfl, Nat.le_of_ble_eq_true rfl⟩) ⟨x_blind, va_recv hK hP (ci := 3) (q0 := 0) rfl rfl, fun U hU hW => x_pre (isC := [0, 1, 2, 3, 4, 5, 6, 7, 8, 9, 10, 11, 12, 13, 14, 15, 16, 17, 18, 19, 20, 21, 22, 23, 24]) hK hP hD rfl rfl hU hW⟩ rfl rfl hl.1 rfl (lv_room (Nat.le_of_ble_eq_true rfl)) d_R_settle_40 ⟨Nat.le_of_ble_eq_true rfl, Nat.le_of_ble_eq_true rfl⟩) hP hD hS hA rfl rfl rfl (by decide) (fun _ => rfl) rfl (fun r40 u40 H locs hw hP hD hS => ?_)
        exact hret r40 (xR_, u36.1, u40, u36.2.2) _ _ _ _ _ _ rfl hw hP hD hS (Nat.le_of_ble_eq_true rfl) (Nat.le_of_ble_eq_true rfl) d_R_settle_43
      · have hw := hw.2 c10
        refine lv_aload_n hx hb d_R_settle_13 rfl (lv_at hl 0 rfl) ?_
        refine va_get (D := (dC, dI)) (ci := 3) (v := .ref (qU 0)) (C := "ReleaseRows") (T := T_R) (N := 6) hx hb hts in_R hown hK hP 0 rfl rfl 0 (by decide) (hts _ k_157) (fun _ h9 => h9) rfl d_R_settle_14 ?_
        refine lv_iload_n hx hb d_R_settle_17 rfl (lv_at hl 1 rfl) ?_
        refine lv_aload_n hx hb d_R_settle_18 rfl (lv_at hl 0 rfl) ?_
        refine va_get (D := (dC, dI)) (ci := 3) (v := .ref (qR 4)) (C := "ReleaseRows") (T := T_R) (N := 6) hx hb hts in_R hown hK hP 0 rfl rfl 3 (by decide) (hts _ k_160) (fun _ h9 => h9) rfl d_R_settle_19 ?_
        refine lv_aload_n hx hb d_R_settle_22 rfl (lv_at hl 0 rfl) ?_
        refine va_get (D := (dC, dI)) (ci := 3) (v := .int (xR_.2 4)) (C := "ReleaseRows") (T := T_R) (N := 6) hx hb hts in_R hown hK hP 0 rfl rfl 4 (by decide) (hts _ k_161) (fun _ h9 => h9) rfl d_R_settle_23 ?_
        refine x_cv (w2 := fun u26 => (wd_RUIW qR qU qI qW cI cZ cL (sR xR_ 3 u26.2) u26.1 xI_ xW_)) [2, 3, 4, 5, 6, 7, 8, 9, 10, 11, 12, 1] [0, 13, 14, 15, 16, 17, 18, 19, 20, 21, 22, 23, 24] [0, 24, 13, 14, 15, 16, 17, 18, 19, 20, 21, 22, 23, 1, 2, 3, 4, 5, 6, 7, 8, 9, 10, 11, 12] (va_runV (As := [.int v1_, .ref (qR 4), .int (xR_.2 4)]) (rest := []) ⟨hx, hb, hml, hown, hts⟩ (c_U_goOn l dC dI cI cZ cL qU (qR 4) _ xU_ (xR_.1 3) v1_ (xR_.2 4) _ hw) (cwV 3 hts (x_gV k_293 k_294 k_295 k_27 k_296) rfl rfl rfl (by decide +kernel) ⟨Nat.le_of_ble_eq_true rfl, Nat.le_of_ble_eq_true rfl⟩) ⟨x_blind, va_recv hK hP (ci := 1) (q0 := 2) rfl rfl, fun U hU hW => x_pre (isC := [2, 3, 4, 5, 6, 7, 8, 9, 10, 11, 12, 1]) hK hP hD rfl rfl hU hW⟩ rfl rfl hl.1 rfl (lv_room (Nat.le_of_ble_eq_true rfl)) d_R_settle_26 ⟨Nat.le_of_ble_eq_true rfl, Nat.le_of_ble_eq_true rfl⟩) hP hD hS hA rfl rfl rfl (by decide) (fun _ => rfl) rfl (fun u26 H locs hw hP hD hS => ?_)
        obtain ⟨v1_29, ev1_29⟩ : ∃ y : Int32, y = v1_ + 1 := ⟨_, rfl⟩
        have hw := hw v1_29 ev1_29
        refine lv_iinc (v := v1_29) (lv' := [(1, .int v1_29), (0, .ref (qR 0))]) hx hb d_R_settle_29 hl (k := 1) rfl (by rw [ev1_29]; rfl) (by decide) rfl (fun ls hl => ?_)
        refine lv_goto (tgt := 2) hx hb d_R_settle_32 (by decide) ?_
        exact ih2 (sR xR_ 3 u26.2) u26.1 xI_ xW_ v1_29 _ _ _ hw hP hD hS (lv_sub hl [1, 0] rfl)
  unfold wp_R_settle at hw
  refine lv_iconst (v := (0 : Int32)) hx hb d_R_settle_0 (by decide) ?_
  refine lv_istore_n (lv' := [(1, .int (0 : Int32)), (0, .ref (qR 0))]) hx hb d_R_settle_1 rfl hl (by decide) rfl (fun ls hl => ?_)
  obtain ⟨n9, hw⟩ := hw
  exact lp2 n9 xR xU xI xW (0 : Int32) _ _ _ hw hP hD hS (lv_sub hl [1, 0] rfl)

def wj_R_earlierAhead_17 (xR : St) (xU : St) (xI : St) (xW : St) (a1 : Int32) (a2 : Int32) (post : Int32 → Unit → Prop)  : Prop := post a2 ()
def wp_R_earlierAhead (xR : St) (xU : St) (xI : St) (xW : St) (a1 : Int32) (a2 : Int32) (post : Int32 → Unit → Prop) : Prop := (a1 ≤ (xR.2 4) → (wj_R_earlierAhead_17 xR xU xI xW a1 a2 post )) ∧ (¬ a1 ≤ (xR.2 4) → ((a2 ≤ a1 → (wj_R_earlierAhead_17 xR xU xI xW a1 a2 post )) ∧ (¬ a2 ≤ a1 → (post a1 ()))))
set_option maxHeartbeats 4000000 in
set_option maxRecDepth 100000 in
theorem c_R_earlierAhead (l : Launch) (dC : Nat → ClassId) (dI : Nat → Nat → Nat) (cI cZ cL : ClassId) (qR : Nat → Nat) (qU : Nat → Nat) (qI : Nat → Nat) (qW : Nat → Nat) (sz : Nat) (xR : St) (xU : St) (xI : St) (xW : St) (a1 : Int32) (a2 : Int32) (post : Int32 → Unit → Prop) (hw : wp_R_earlierAhead xR xU xI xW a1 a2 post) : Met l y_R_earlierAhead w_R_earlierAhead ({ frames := 0, cells := 0, slots := 0, locals := 0 } : Room) (va_Pc [.ref (qR 0), .int a1, .int a2] (xP (dC, dI) vwCl [(cI, .int), (cZ, .boolean), (cL, .long)] (wd_RUIW qR qU qI qW cI cZ cL xR xU xI xW) sz)) (va_Qi post (xB (dC, dI) vwCl [(cI, .int), (cZ, .boolean), (cL, .long)] (va_A (wd_RUIW qR qU qI qW cI cZ cL xR xU xI xW) sz) (fun _ => (wd_RUIW qR qU qI qW cI cZ cL xR xU xI xW))) (va_A (wd_RUIW qR qU qI qW cI cZ cL xR xU xI xW) sz)) 0 0 (va_A (wd_RUIW qR qU qI qW cI cZ cL xR xU xI xW) sz) := by
  refine x_ofI (cc := b_R_earlierAhead) (maxL := 3) (by decide) rfl (Nat.le_of_ble_eq_true rfl) (fun p e s m below meth c A Q hx hb hml hts hown hK hA hP hD hS hret ls hl => ?_)
  have hl : lv_has ls 3 [(0, .ref (qR 0)), (1, .int a1), (2, .int a2)] := hl
  have jn17 : ∀ (H : Heap) (locs : List Loc) (ls : Array Slot), wj_R_earlierAhead_17 xR xU xI xW a1 a2 post  → va_P (dC, dI) vwCl (wd_RUIW qR qU qI qW cI cZ cL xR xU xI xW) H → va_D A (wd_RUIW qR qU qI qW cI cZ cL xR xU xI xW) → va_S A s.heap H locs → lv_has ls 3 [(2, .int a2)] → W p l e (headSpec w_R_earlierAhead ({ frames := 0, cells := 0, slots := 0, locals := 0 } : Room)).room s m ([.ref (qR 0), .int a1, .int a2] : List Value).toArray below meth c H locs 0 0 Q (F0 m 17 ls []) := by
    intro  H locs ls hw hP hD hS hl
    unfold wj_R_earlierAhead_17 at hw
    refine lv_iload_n hx hb d_R_earlierAhead_17 rfl (lv_at hl 0 rfl) ?_
    exact hret a2 () _ _ _ _ _ _ rfl hw hP hD hS (Nat.le_of_ble_eq_true rfl) (Nat.le_of_ble_eq_true rfl) d_R_earlierAhead_18
  unfold wp_R_earlierAhead at hw
  refine lv_iload_n hx hb d_R_earlierAhead_0 rfl (lv_at hl 1 rfl) ?_
  refine lv_aload_n hx hb d_R_earlierAhead_1 rfl (lv_at hl 0 rfl) ?_
  refine va_get (D := (dC, dI)) (ci := 3) (v := .int (xR.2 4)) (C := "ReleaseRows") (T := T_R) (N := 6) hx hb hts in_R hown hK hP 0 rfl rfl 4 (by decide) (hts _ k_161) (fun _ h9 => h9) rfl d_R_earlierAhead_2 ?_
  refine lv_icmp_le (tgt := 17) hx hb d_R_earlierAhead_5 (by decide) (fun c5 => ?_) (fun c5 => ?_)
  · have hw := hw.1 c5
    exact jn17 _ _ _ hw hP hD hS (lv_sub hl [2] rfl)
  · have hw := hw.2 c5
    refine lv_iload_n hx hb d_R_earlierAhead_8 rfl (lv_at hl 1 rfl) ?_
    refine lv_iload_n hx hb d_R_earlierAhead_9 rfl (lv_at hl 2 rfl) ?_
    refine lv_icmp_ge (tgt := 17) hx hb d_R_earlierAhead_10 (by decide) (fun c10 => ?_) (fun c10 => ?_)
    · have hw := hw.1 c10
      exact jn17 _ _ _ hw hP hD hS (lv_sub hl [2] rfl)
    · have hw := hw.2 c10
      refine lv_iload_n hx hb d_R_earlierAhead_13 rfl (lv_at hl 1 rfl) ?_
      refine lv_goto (tgt := 18) hx hb d_R_earlierAhead_14 (by decide) ?_
      exact hret a1 () _ _ _ _ _ _ rfl hw hP hD hS (Nat.le_of_ble_eq_true rfl) (Nat.le_of_ble_eq_true rfl) d_R_earlierAhead_18

def wj_R_nextChange_75 (xR : St) (xU : St) (xI : St) (xW : St) (a1 : Int32) (post : Int32 → Unit → Prop) (rec37 : Int32 → Int32 → Prop) (v2_ : Int32) (v3_ : Int32) : Prop := ∀ v3_75 : Int32, v3_75 = v3_ + 1 → (rec37 v2_ v3_75)
def wl_R_nextChange_37 (xR : St) (xU : St) (xI : St) (xW : St) (a1 : Int32) (post : Int32 → Unit → Prop) : Nat → Int32 → Int32 → Prop
  | 0 => fun _ _ => False
  | n9 + 1 => fun v2_ v3_ => ((xI.2 9) ≤ v3_ → (post v2_ ())) ∧ (¬ (xI.2 9) ≤ v3_ → (vp_in v3_ 20 ∧ (((xI.1 1 v3_.toNatClampNeg) = 0 → (wj_R_nextChange_75 xR xU xI xW a1 post (wl_R_nextChange_37 xR xU xI xW a1 post n9) v2_ v3_)) ∧ (¬ (xI.1 1 v3_.toNatClampNeg) = 0 → (vp_in v3_ 20 ∧ (wp_R_earlierAhead xR xU xI xW (xI.1 5 v3_.toNatClampNeg) v2_ (fun r71 _ => (wj_R_nextChange_75 xR xU xI xW a1 post (wl_R_nextChange_37 xR xU xI xW a1 post n9) r71 v3_))))))))
def wl_R_nextChange_4 (xR : St) (xU : St) (xI : St) (xW : St) (a1 : Int32) (post : Int32 → Unit → Prop) : Nat → Int32 → Int32 → Prop
  | 0 => fun _ _ => False
  | n9 + 1 => fun v2_ v3_ => ((xU.2 10) ≤ v3_ → (∃ k9 : Nat, wl_R_nextChange_37 xR xU xI xW a1 post k9 v2_ (0 : Int32))) ∧ (¬ (xU.2 10) ≤ v3_ → (wp_U_workEnd xU v3_ (fun r21 _ => (wp_R_earlierAhead xR xU xI xW r21 v2_ (fun r25 _ => (∀ v3_29 : Int32, v3_29 = v3_ + 1 → ((wl_R_nextChange_4 xR xU xI xW a1 post n9) r25 v3_29)))))))
def wp_R_nextChange (xR : St) (xU : St) (xI : St) (xW : St) (a1 : Int32) (post : Int32 → Unit → Prop) : Prop := ∃ k9 : Nat, wl_R_nextChange_4 xR xU xI xW a1 post k9 a1 (0 : Int32)
set_option maxHeartbeats 4000000 in
set_option maxRecDepth 100000 in
theorem c_R_nextChange (l : Launch) (dC : Nat → ClassId) (dI : Nat → Nat → Nat) (cI cZ cL : ClassId) (qR : Nat → Nat) (qU : Nat → Nat) (qI : Nat → Nat) (qW : Nat → Nat) (sz : Nat) (xR : St) (xU : St) (xI : St) (xW : St) (a1 : Int32) (post : Int32 → Unit → Prop) (hw : wp_R_nextChange xR xU xI xW a1 post) : Met l y_R_nextChange w_R_nextChange ({ frames := 1, cells := 0, slots := 0, locals := 22 } : Room) (va_Pc [.ref (qR 0), .int a1] (xP (dC, dI) vwCl [(cI, .int), (cZ, .boolean), (cL, .long)] (wd_RUIW qR qU qI qW cI cZ cL xR xU xI xW) sz)) (va_Qi post (xB (dC, dI) vwCl [(cI, .int), (cZ, .boolean), (cL, .long)] (va_A (wd_RUIW qR qU qI qW cI cZ cL xR xU xI xW) sz) (fun _ => (wd_RUIW qR qU qI qW cI cZ cL xR xU xI xW))) (va_A (wd_RUIW qR qU qI qW cI cZ cL xR xU xI xW) sz)) 0 0 (va_A (wd_RUIW qR qU qI qW cI cZ cL xR xU xI xW) sz) := by
  refine x_ofI (cc := b_R_nextChange) (maxL := 4) (by decide) rfl (Nat.le_of_ble_eq_true rfl) (fun p e s m below meth c A Q hx hb hml hts hown hK hA hP hD hS hret ls hl => ?_)
  have hl : lv_has ls 4 [(0, .ref (qR 0)), (1, .int a1)] := hl
  have lp37 : ∀ (n37 : Nat) (v2_ : Int32) (v3_ : Int32) (H : Heap) (locs : List Loc) (ls : Array Slot), wl_R_nextChange_37 xR xU xI xW a1 post n37 v2_ v3_ → va_P (dC, dI) vwCl (wd_RUIW qR qU qI qW cI cZ cL xR xU xI xW) H → va_D A (wd_RUIW qR qU qI qW cI cZ cL xR xU xI xW) → va_S A s.heap H locs → lv_has ls 4 [(0, .ref (qR 0)), (2, .int v2_), (3, .int v3_)] → W p l e (headSpec w_R_nextChange ({ frames := 1, cells := 0, slots := 0, locals := 22 } : Room)).room s m ([.ref (qR 0), .int a1] : List Value).toArray below meth c H locs 0 0 Q (F0 m 37 ls []) := by
    intro n37
    induction n37 with
    | zero => intro v2_ v3_ H locs ls hw; exact hw.elim
    | succ n37 ih37 =>
      have jn75 : ∀ (v2_ : Int32) (v3_ : Int32) (H : Heap) (locs : List Loc) (ls : Array Slot), wj_R_nextChange_75 xR xU xI xW a1 post (wl_R_nextChange_37 xR xU xI xW a1 post n37) v2_ v3_ → va_P (dC, dI) vwCl (wd_RUIW qR qU qI qW cI cZ cL xR xU xI xW) H → va_D A (wd_RUIW qR qU qI qW cI cZ cL xR xU xI xW) → va_S A s.heap H locs → lv_has ls 4 [(0, .ref (qR 0)), (2, .int v2_), (3, .int v3_)] → W p l e (headSpec w_R_nextChange ({ frames := 1, cells := 0, slots := 0, locals := 22 } : Room)).room s m ([.ref (qR 0), .int a1] : List Value).toArray below meth c H locs 0 0 Q (F0 m 75 ls []) := by
        intro v2_ v3_ H locs ls hw hP hD hS hl
        unfold wj_R_nextChange_75 at hw
        obtain ⟨v3_75, ev3_75⟩ : ∃ y : Int32, y = v3_ + 1 := ⟨_, rfl⟩
        have hw := hw v3_75 ev3_75
        refine lv_iinc (v := v3_75) (lv' := [(3, .int v3_75), (0, .ref (qR 0)), (2, .int v2_)]) hx hb d_R_nextChange_75 hl (k := 2) rfl (by rw [ev3_75]; rfl) (by decide) rfl (fun ls hl => ?_)
        refine lv_goto (tgt := 37) hx hb d_R_nextChange_78 (by decide) ?_
        exact ih37 v2_ v3_75 _ _ _ hw hP hD hS (lv_sub hl [1, 2, 0] rfl)
      intro v2_ v3_ H locs ls hw hP hD hS hl
      unfold wl_R_nextChange_37 at hw
      refine lv_iload_n hx hb d_R_nextChange_37 rfl (lv_at hl 2 rfl) ?_
      refine lv_aload_n hx hb d_R_nextChange_38 rfl (lv_at hl 0 rfl) ?_
      refine va_get (D := (dC, dI)) (ci := 3) (v := .ref (qI 0)) (C := "ReleaseRows") (T := T_R) (N := 6) hx hb hts in_R hown hK hP 0 rfl rfl 1 (by decide) (hts _ k_158) (fun _ h9 => h9) rfl d_R_nextChange_39 ?_
      refine va_get (D := (dC, dI)) (ci := 0) (v := .int (xI.2 9)) (C := "ReleaseRows$IncidentRows") (T := T_I) (N := 10) hx hb hts in_I hown hK hP 13 rfl rfl 9 (by decide) (hts _ k_120) (fun _ h9 => h9) rfl d_R_nextChange_42 ?_
      refine lv_icmp_ge (tgt := 81) hx hb d_R_nextChange_45 (by decide) (fun c45 => ?_) (fun c45 => ?_)
      · have hw := hw.1 c45
        refine lv_iload_n hx hb d_R_nextChange_81 rfl (lv_at hl 1 rfl) ?_
        exact hret v2_ () _ _ _ _ _ _ rfl hw hP hD hS (Nat.le_of_ble_eq_true rfl) (Nat.le_of_ble_eq_true rfl) d_R_nextChange_82
      · have hw := hw.2 c45
        refine lv_aload_n hx hb d_R_nextChange_48 rfl (lv_at hl 0 rfl) ?_
        refine va_get (D := (dC, dI)) (ci := 3) (v := .ref (qI 0)) (C := "ReleaseRows") (T := T_R) (N := 6) hx hb hts in_R hown hK hP 0 rfl rfl 1 (by decide) (hts _ k_158) (fun _ h9 => h9) rfl d_R_nextChange_49 ?_
        refine va_get (D := (dC, dI)) (ci := 0) (v := .ref (qI 2)) (C := "ReleaseRows$IncidentRows") (T := T_I) (N := 10) hx hb hts in_I hown hK hP 13 rfl rfl 1 (by decide) (hts _ k_104) (fun _ h9 => h9) rfl d_R_nextChange_52 ?_
        refine lv_iload_n hx hb d_R_nextChange_55 rfl (lv_at hl 2 rfl) ?_
        obtain ⟨h56, hw⟩ := hw
        refine va_zald hx hb hK hP 15 1 rfl rfl h56 d_R_nextChange_56 ?_
        refine lv_if_eq (tgt := 75) hx hb d_R_nextChange_57 (by decide) (fun c57 => ?_) (fun c57 => ?_)
        · have hw := hw.1 c57
          exact jn75 v2_ v3_ _ _ _ hw hP hD hS hl
        · have hw := hw.2 c57
          refine lv_aload_n hx hb d_R_nextChange_60 rfl (lv_at hl 0 rfl) ?_
          refine lv_aload_n hx hb d_R_nextChange_61 rfl (lv_at hl 0 rfl) ?_
          refine va_get (D := (dC, dI)) (ci := 3) (v := .ref (qI 0)) (C := "ReleaseRows") (T := T_R) (N := 6) hx hb hts in_R hown hK hP 0 rfl rfl 1 (by decide) (hts _ k_158) (fun _ h9 => h9) rfl d_R_nextChange_62 ?_
          refine va_get (D := (dC, dI)) (ci := 0) (v := .ref (qI 6)) (C := "ReleaseRows$IncidentRows") (T := T_I) (N := 10) hx hb hts in_I hown hK hP 13 rfl rfl 5 (by decide) (hts _ k_112) (fun _ h9 => h9) rfl d_R_nextChange_65 ?_
          refine lv_iload_n hx hb d_R_nextChange_68 rfl (lv_at hl 2 rfl) ?_
          obtain ⟨h69, hw⟩ := hw
          refine va_iald hx hb hK hP 19 0 rfl rfl h69 d_R_nextChange_69 ?_
          refine lv_iload_n hx hb d_R_nextChange_70 rfl (lv_at hl 1 rfl) ?_
          refine x_ci (w2 := fun _ => (wd_RUIW qR qU qI qW cI cZ cL xR xU xI xW)) [0, 1, 2, 3, 4, 5, 6, 7, 8, 9, 10, 11, 12, 13, 14, 15, 16, 17, 18, 19, 20, 21, 22, 23, 24] [] [0, 1, 2, 3, 4, 5, 6, 7, 8, 9, 10, 11, 12, 13, 14, 15, 16, 17, 18, 19, 20, 21, 22, 23, 24] (va_runV (As := [.int (xI.1 5 v3_.toNatClampNeg), .int v2_]) (rest := []) ⟨hx, hb, hml, hown, hts⟩ (c_R_earlierAhead l dC dI cI cZ cL qR qU qI qW _ xR xU xI xW (xI.1 5 v3_.toNatClampNeg) v2_ _ hw) (cwV 2 hts (x_gV k_531 k_533 k_9 k_26 k_534) rfl rfl rfl (by decide +kernel) ⟨Nat.le_of_ble_eq_true rfl, Nat.le_of_ble_eq_true rfl⟩) ⟨x_blind, va_recv hK hP (ci := 3) (q0 := 0) rfl rfl, fun U hU hW => x_pre (isC := [0, 1, 2, 3, 4, 5, 6, 7, 8, 9, 10, 11, 12, 13, 14, 15, 16, 17, 18, 19, 20, 21, 22, 23, 24]) hK hP hD rfl rfl hU hW⟩ rfl rfl hl.1 rfl (lv_room (Nat.le_of_ble_eq_true rfl)) d_R_nextChange_71 ⟨Nat.le_of_ble_eq_true rfl, Nat.le_of_ble_eq_true rfl⟩) hP hD hS hA rfl rfl rfl (by decide) (fun _ => rfl) rfl (fun r71 _ H locs hw hP hD hS => ?_)
          refine lv_istore_n (lv' := [(2, .int r71), (0, .ref (qR 0)), (3, .int v3_)]) hx hb d_R_nextChange_74 rfl hl (by decide) rfl (fun ls hl => ?_)
          exact jn75 r71 v3_ _ _ _ hw hP hD hS (lv_sub hl [1, 0, 2] rfl)
  have lp4 : ∀ (n4 : Nat) (v2_ : Int32) (v3_ : Int32) (H : Heap) (locs : List Loc) (ls : Array Slot), wl_R_nextChange_4 xR xU xI xW a1 post n4 v2_ v3_ → va_P (dC, dI) vwCl (wd_RUIW qR qU qI qW cI cZ cL xR xU xI xW) H → va_D A (wd_RUIW qR qU qI qW cI cZ cL xR xU xI xW) → va_S A s.heap H locs → lv_has ls 4 [(0, .ref (qR 0)), (2, .int v2_), (3, .int v3_)] → W p l e (headSpec w_R_nextChange ({ frames := 1, cells := 0, slots := 0, locals := 22 } : Room)).room s m ([.ref (qR 0), .int a1] : List Value).toArray below meth c H locs 0 0 Q (F0 m 4 ls []) := by
    intro n4
    induction n4 with
    | zero => intro v2_ v3_ H locs ls hw; exact hw.elim
    | succ n4 ih4 =>
      intro v2_ v3_ H locs ls hw hP hD hS hl
      unfold wl_R_nextChange_4 at hw
      refine lv_iload_n hx hb d_R_nextChange_4 rfl (lv_at hl 2 rfl) ?_
      refine lv_aload_n hx hb d_R_nextChange_5 rfl (lv_at hl 0 rfl) ?_
      refine va_get (D := (dC, dI)) (ci := 3) (v := .ref (qU 0)) (C := "ReleaseRows") (T := T_R) (N := 6) hx hb hts in_R hown hK hP 0 rfl rfl 0 (by decide) (hts _ k_157) (fun _ h9 => h9) rfl d_R_nextChange_6 ?_
      refine va_get (D := (dC, dI)) (ci := 1) (v := .int (xU.2 10)) (C := "ReleaseRows$UnitRows") (T := T_U) (N := 11) hx hb hts in_U hown hK hP 2 rfl rfl 10 (by decide) (hts _ k_71) (fun _ h9 => h9) rfl d_R_nextChange_9 ?_
      refine lv_icmp_ge (tgt := 35) hx hb d_R_nextChange_12 (by decide) (fun c12 => ?_) (fun c12 => ?_)
      · have hw := hw.1 c12
        refine lv_iconst (v := (0 : Int32)) hx hb d_R_nextChange_35 (by decide) ?_
        refine lv_istore_n (lv' := [(3, .int (0 : Int32)), (0, .ref (qR 0)), (2, .int v2_)]) hx hb d_R_nextChange_36 rfl hl (by decide) rfl (fun ls hl => ?_)
        obtain ⟨n9, hw⟩ := hw
        exact lp37 n9 v2_ (0 : Int32) _ _ _ hw hP hD hS (lv_sub hl [1, 2, 0] rfl)
      · have hw := hw.2 c12
        refine lv_aload_n hx hb d_R_nextChange_15 rfl (lv_at hl 0 rfl) ?_
        refine lv_aload_n hx hb d_R_nextChange_16 rfl (lv_at hl 0 rfl) ?_
        refine va_get (D := (dC, dI)) (ci := 3) (v := .ref (qU 0)) (C := "ReleaseRows") (T := T_R) (N := 6) hx hb hts in_R hown hK hP 0 rfl rfl 0 (by decide) (hts _ k_157) (fun _ h9 => h9) rfl d_R_nextChange_17 ?_
        refine lv_iload_n hx hb d_R_nextChange_20 rfl (lv_at hl 2 rfl) ?_
        refine x_ci (w2 := fun _ => (wd_RUIW qR qU qI qW cI cZ cL xR xU xI xW)) [2, 3, 4, 5, 6, 7, 8, 9, 10, 11, 12] [0, 1, 13, 14, 15, 16, 17, 18, 19, 20, 21, 22, 23, 24] [0, 1, 14, 15, 16, 17, 18, 19, 20, 21, 22, 23, 24, 2, 3, 4, 5, 6, 7, 8, 9, 10, 11, 12, 13] (va_runV (As := [.int v3_]) (rest := [.ref (qR 0)]) ⟨hx, hb, hml, hown, hts⟩ (c_U_workEnd l dC dI cI cZ cL qU _ xU v3_ _ hw) (cwV 1 hts (x_gV k_530 k_298 k_299 k_27 k_300) rfl rfl rfl (by decide +kernel) ⟨Nat.le_of_ble_eq_true rfl, Nat.le_of_ble_eq_true rfl⟩) ⟨x_blind, va_recv hK hP (ci := 1) (q0 := 2) rfl rfl, fun U hU hW => x_pre (isC := [2, 3, 4, 5, 6, 7, 8, 9, 10, 11, 12]) hK hP hD rfl rfl hU hW⟩ rfl rfl hl.1 rfl (lv_room (Nat.le_of_ble_eq_true rfl)) d_R_nextChange_21 ⟨Nat.le_of_ble_eq_true rfl, Nat.le_of_ble_eq_true rfl⟩) hP hD hS hA rfl rfl rfl (by decide) (fun _ => rfl) rfl (fun r21 _ H locs hw hP hD hS => ?_)
        refine lv_iload_n hx hb d_R_nextChange_24 rfl (lv_at hl 1 rfl) ?_
        refine x_ci (w2 := fun _ => (wd_RUIW qR qU qI qW cI cZ cL xR xU xI xW)) [0, 1, 2, 3, 4, 5, 6, 7, 8, 9, 10, 11, 12, 13, 14, 15, 16, 17, 18, 19, 20, 21, 22, 23, 24] [] [0, 1, 2, 3, 4, 5, 6, 7, 8, 9, 10, 11, 12, 13, 14, 15, 16, 17, 18, 19, 20, 21, 22, 23, 24] (va_runV (As := [.int r21, .int v2_]) (rest := []) ⟨hx, hb, hml, hown, hts⟩ (c_R_earlierAhead l dC dI cI cZ cL qR qU qI qW _ xR xU xI xW r21 v2_ _ hw) (cwV 2 hts (x_gV k_531 k_533 k_9 k_26 k_534) rfl rfl rfl (by decide +kernel) ⟨Nat.le_of_ble_eq_true rfl, Nat.le_of_ble_eq_true rfl⟩) ⟨x_blind, va_recv hK hP (ci := 3) (q0 := 0) rfl rfl, fun U hU hW => x_pre (isC := [0, 1, 2, 3, 4, 5, 6, 7, 8, 9, 10, 11, 12, 13, 14, 15, 16, 17, 18, 19, 20, 21, 22, 23, 24]) hK hP hD rfl rfl hU hW⟩ rfl rfl hl.1 rfl (lv_room (Nat.le_of_ble_eq_true rfl)) d_R_nextChange_25 ⟨Nat.le_of_ble_eq_true rfl, Nat.le_of_ble_eq_true rfl⟩) hP hD hS hA rfl rfl rfl (by decide) (fun _ => rfl) rfl (fun r25 _ H locs hw hP hD hS => ?_)
        refine lv_istore_n (lv' := [(2, .int r25), (0, .ref (qR 0)), (3, .int v3_)]) hx hb d_R_nextChange_28 rfl hl (by decide) rfl (fun ls hl => ?_)
        obtain ⟨v3_29, ev3_29⟩ : ∃ y : Int32, y = v3_ + 1 := ⟨_, rfl⟩
        have hw := hw v3_29 ev3_29
        refine lv_iinc (v := v3_29) (lv' := [(3, .int v3_29), (2, .int r25), (0, .ref (qR 0))]) hx hb d_R_nextChange_29 hl (k := 2) rfl (by rw [ev3_29]; rfl) (by decide) rfl (fun ls hl => ?_)
        refine lv_goto (tgt := 4) hx hb d_R_nextChange_32 (by decide) ?_
        exact ih4 r25 v3_29 _ _ _ hw hP hD hS (lv_sub hl [2, 1, 0] rfl)
  unfold wp_R_nextChange at hw
  refine lv_iload_n hx hb d_R_nextChange_0 rfl (lv_at hl 1 rfl) ?_
  refine lv_istore_n (lv' := [(2, .int a1), (0, .ref (qR 0)), (1, .int a1)]) hx hb d_R_nextChange_1 rfl hl (by decide) rfl (fun ls hl => ?_)
  refine lv_iconst (v := (0 : Int32)) hx hb d_R_nextChange_2 (by decide) ?_
  refine lv_istore_n (lv' := [(3, .int (0 : Int32)), (2, .int a1), (0, .ref (qR 0)), (1, .int a1)]) hx hb d_R_nextChange_3 rfl hl (by decide) rfl (fun ls hl => ?_)
  obtain ⟨n9, hw⟩ := hw
  exact lp4 n9 a1 (0 : Int32) _ _ _ hw hP hD hS (lv_sub hl [2, 1, 0] rfl)
end
