section
-- ===== PART A: goes FIRST, ahead of the names: the tables' words, and 'selects' of the private methods out of them =====
/-- a private method of a class that the tables say can be made, by its rows of tables_1 -/
def lw_okq (q : MethodName × Nat) : Prop := (q.1.cls ≠ "java/lang/invoke/MethodHandle" ∧ q.1.cls ≠ "java/lang/invoke/VarHandle") ∧ Cond.instantiable q.1.cls q.2 ∈ tables_1 ∧ Cond.privateMethod q.1 ∈ tables_1 ∧ Cond.instanceMethod q.1 ∈ tables_1
theorem lw_p0 : lw_okq (⟨"PeerAudit", "save", "()V"⟩, 4) := ⟨⟨by decide +kernel, by decide +kernel⟩, List.mem_of_getElem? (i := 14) (by decide +kernel), List.mem_of_getElem? (i := 158) (by decide +kernel), List.mem_of_getElem? (i := 159) (by decide +kernel)⟩
theorem lw_p1 : lw_okq (⟨"java/lang/Throwable", "fillInStackTrace", "(I)Ljava/lang/Throwable;"⟩, 6) := ⟨⟨by decide +kernel, by decide +kernel⟩, List.mem_of_getElem? (i := 314) (by decide +kernel), List.mem_of_getElem? (i := 312) (by decide +kernel), List.mem_of_getElem? (i := 313) (by decide +kernel)⟩
theorem lw_p2 : lw_okq (⟨"PeerAudit", "requireMachine", "(I)V"⟩, 4) := ⟨⟨by decide +kernel, by decide +kernel⟩, List.mem_of_getElem? (i := 14) (by decide +kernel), List.mem_of_getElem? (i := 353) (by decide +kernel), List.mem_of_getElem? (i := 354) (by decide +kernel)⟩
theorem lw_p3 : lw_okq (⟨"PeerAudit", "requireEntry", "(II)V"⟩, 4) := ⟨⟨by decide +kernel, by decide +kernel⟩, List.mem_of_getElem? (i := 14) (by decide +kernel), List.mem_of_getElem? (i := 519) (by decide +kernel), List.mem_of_getElem? (i := 520) (by decide +kernel)⟩
theorem lw_p4 : lw_okq (⟨"PeerAuditModel", "begins", "(I)V"⟩, 5) := ⟨⟨by decide +kernel, by decide +kernel⟩, List.mem_of_getElem? (i := 629) (by decide +kernel), List.mem_of_getElem? (i := 635) (by decide +kernel), List.mem_of_getElem? (i := 636) (by decide +kernel)⟩
theorem lw_p5 : lw_okq (⟨"PeerAuditModel", "refused", "(I)Z"⟩, 5) := ⟨⟨by decide +kernel, by decide +kernel⟩, List.mem_of_getElem? (i := 629) (by decide +kernel), List.mem_of_getElem? (i := 666) (by decide +kernel), List.mem_of_getElem? (i := 667) (by decide +kernel)⟩
theorem lw_p6 : lw_okq (⟨"PeerAuditModel", "saves", "()V"⟩, 5) := ⟨⟨by decide +kernel, by decide +kernel⟩, List.mem_of_getElem? (i := 629) (by decide +kernel), List.mem_of_getElem? (i := 677) (by decide +kernel), List.mem_of_getElem? (i := 678) (by decide +kernel)⟩
theorem lw_p7 : lw_okq (⟨"PeerAuditModel", "many", "()I"⟩, 5) := ⟨⟨by decide +kernel, by decide +kernel⟩, List.mem_of_getElem? (i := 629) (by decide +kernel), List.mem_of_getElem? (i := 681) (by decide +kernel), List.mem_of_getElem? (i := 682) (by decide +kernel)⟩
theorem lw_p8 : lw_okq (⟨"PeerAuditModel", "isMachine", "(I)Z"⟩, 5) := ⟨⟨by decide +kernel, by decide +kernel⟩, List.mem_of_getElem? (i := 629) (by decide +kernel), List.mem_of_getElem? (i := 689) (by decide +kernel), List.mem_of_getElem? (i := 690) (by decide +kernel)⟩
theorem lw_p9 : lw_okq (⟨"PeerAuditModel", "hasRoom", "(I)Z"⟩, 5) := ⟨⟨by decide +kernel, by decide +kernel⟩, List.mem_of_getElem? (i := 629) (by decide +kernel), List.mem_of_getElem? (i := 693) (by decide +kernel), List.mem_of_getElem? (i := 694) (by decide +kernel)⟩
theorem lw_p10 : lw_okq (⟨"PeerAuditModel", "get", "(II)I"⟩, 5) := ⟨⟨by decide +kernel, by decide +kernel⟩, List.mem_of_getElem? (i := 629) (by decide +kernel), List.mem_of_getElem? (i := 697) (by decide +kernel), List.mem_of_getElem? (i := 698) (by decide +kernel)⟩
theorem lw_p11 : lw_okq (⟨"PeerAuditModel", "takes", "(IIII)V"⟩, 5) := ⟨⟨by decide +kernel, by decide +kernel⟩, List.mem_of_getElem? (i := 629) (by decide +kernel), List.mem_of_getElem? (i := 701) (by decide +kernel), List.mem_of_getElem? (i := 702) (by decide +kernel)⟩
theorem lw_p12 : lw_okq (⟨"PeerAuditModel", "logs", "(II)V"⟩, 5) := ⟨⟨by decide +kernel, by decide +kernel⟩, List.mem_of_getElem? (i := 629) (by decide +kernel), List.mem_of_getElem? (i := 709) (by decide +kernel), List.mem_of_getElem? (i := 710) (by decide +kernel)⟩
theorem lw_p13 : lw_okq (⟨"PeerAuditModel", "goesTo", "(II)I"⟩, 5) := ⟨⟨by decide +kernel, by decide +kernel⟩, List.mem_of_getElem? (i := 629) (by decide +kernel), List.mem_of_getElem? (i := 716) (by decide +kernel), List.mem_of_getElem? (i := 717) (by decide +kernel)⟩
theorem lw_p14 : lw_okq (⟨"PeerAuditModel", "chainAt", "(II)I"⟩, 5) := ⟨⟨by decide +kernel, by decide +kernel⟩, List.mem_of_getElem? (i := 629) (by decide +kernel), List.mem_of_getElem? (i := 720) (by decide +kernel), List.mem_of_getElem? (i := 721) (by decide +kernel)⟩
theorem lw_p15 : lw_okq (⟨"PeerAuditModel", "entryAt", "(II)I"⟩, 5) := ⟨⟨by decide +kernel, by decide +kernel⟩, List.mem_of_getElem? (i := 629) (by decide +kernel), List.mem_of_getElem? (i := 724) (by decide +kernel), List.mem_of_getElem? (i := 725) (by decide +kernel)⟩
def lw_privs_1 : List (MethodName × Nat) := [(⟨"PeerAudit", "save", "()V"⟩, 4), (⟨"java/lang/Throwable", "fillInStackTrace", "(I)Ljava/lang/Throwable;"⟩, 6), (⟨"PeerAudit", "requireMachine", "(I)V"⟩, 4), (⟨"PeerAudit", "requireEntry", "(II)V"⟩, 4), (⟨"PeerAuditModel", "begins", "(I)V"⟩, 5), (⟨"PeerAuditModel", "refused", "(I)Z"⟩, 5), (⟨"PeerAuditModel", "saves", "()V"⟩, 5), (⟨"PeerAuditModel", "many", "()I"⟩, 5), (⟨"PeerAuditModel", "isMachine", "(I)Z"⟩, 5), (⟨"PeerAuditModel", "hasRoom", "(I)Z"⟩, 5), (⟨"PeerAuditModel", "get", "(II)I"⟩, 5), (⟨"PeerAuditModel", "takes", "(IIII)V"⟩, 5), (⟨"PeerAuditModel", "logs", "(II)V"⟩, 5), (⟨"PeerAuditModel", "goesTo", "(II)I"⟩, 5), (⟨"PeerAuditModel", "chainAt", "(II)I"⟩, 5), (⟨"PeerAuditModel", "entryAt", "(II)I"⟩, 5)]
theorem lw_r1 : ∀ q ∈ lw_privs_1, lw_okq q := List.forall_mem_cons.mpr ⟨lw_p0, List.forall_mem_cons.mpr ⟨lw_p1, List.forall_mem_cons.mpr ⟨lw_p2, List.forall_mem_cons.mpr ⟨lw_p3, List.forall_mem_cons.mpr ⟨lw_p4, List.forall_mem_cons.mpr ⟨lw_p5, List.forall_mem_cons.mpr ⟨lw_p6, List.forall_mem_cons.mpr ⟨lw_p7, List.forall_mem_cons.mpr ⟨lw_p8, List.forall_mem_cons.mpr ⟨lw_p9, List.forall_mem_cons.mpr ⟨lw_p10, List.forall_mem_cons.mpr ⟨lw_p11, List.forall_mem_cons.mpr ⟨lw_p12, List.forall_mem_cons.mpr ⟨lw_p13, List.forall_mem_cons.mpr ⟨lw_p14, List.forall_mem_cons.mpr ⟨lw_p15, fun _ h => absurd h List.not_mem_nil⟩⟩⟩⟩⟩⟩⟩⟩⟩⟩⟩⟩⟩⟩⟩⟩
theorem lw_p16 : lw_okq (⟨"PeerAuditModel", "puts", "(IIIIII)V"⟩, 5) := ⟨⟨by decide +kernel, by decide +kernel⟩, List.mem_of_getElem? (i := 629) (by decide +kernel), List.mem_of_getElem? (i := 742) (by decide +kernel), List.mem_of_getElem? (i := 743) (by decide +kernel)⟩
theorem lw_p17 : lw_okq (⟨"PeerAuditModel", "isBarred", "()Z"⟩, 5) := ⟨⟨by decide +kernel, by decide +kernel⟩, List.mem_of_getElem? (i := 629) (by decide +kernel), List.mem_of_getElem? (i := 750) (by decide +kernel), List.mem_of_getElem? (i := 751) (by decide +kernel)⟩
theorem lw_p18 : lw_okq (⟨"PeerAuditModel", "delivers", "()V"⟩, 5) := ⟨⟨by decide +kernel, by decide +kernel⟩, List.mem_of_getElem? (i := 629) (by decide +kernel), List.mem_of_getElem? (i := 754) (by decide +kernel), List.mem_of_getElem? (i := 755) (by decide +kernel)⟩
theorem lw_p19 : lw_okq (⟨"PeerAuditModel", "comesToHold", "(IIII)V"⟩, 5) := ⟨⟨by decide +kernel, by decide +kernel⟩, List.mem_of_getElem? (i := 629) (by decide +kernel), List.mem_of_getElem? (i := 758) (by decide +kernel), List.mem_of_getElem? (i := 759) (by decide +kernel)⟩
theorem lw_p20 : lw_okq (⟨"PeerAuditModel", "isEntry", "(II)Z"⟩, 5) := ⟨⟨by decide +kernel, by decide +kernel⟩, List.mem_of_getElem? (i := 629) (by decide +kernel), List.mem_of_getElem? (i := 794) (by decide +kernel), List.mem_of_getElem? (i := 795) (by decide +kernel)⟩
theorem lw_p21 : lw_okq (⟨"PeerAuditModel", "isWitness", "(II)Z"⟩, 5) := ⟨⟨by decide +kernel, by decide +kernel⟩, List.mem_of_getElem? (i := 629) (by decide +kernel), List.mem_of_getElem? (i := 830) (by decide +kernel), List.mem_of_getElem? (i := 831) (by decide +kernel)⟩
theorem lw_p22 : lw_okq (⟨"PeerAuditModel", "judged", "(II)I"⟩, 5) := ⟨⟨by decide +kernel, by decide +kernel⟩, List.mem_of_getElem? (i := 629) (by decide +kernel), List.mem_of_getElem? (i := 834) (by decide +kernel), List.mem_of_getElem? (i := 835) (by decide +kernel)⟩
theorem lw_p23 : lw_okq (⟨"PeerAuditModel", "mismatch", "(I)I"⟩, 5) := ⟨⟨by decide +kernel, by decide +kernel⟩, List.mem_of_getElem? (i := 629) (by decide +kernel), List.mem_of_getElem? (i := 838) (by decide +kernel), List.mem_of_getElem? (i := 839) (by decide +kernel)⟩
theorem lw_p24 : lw_okq (⟨"PeerAuditModel", "exposes", "(IIII)I"⟩, 5) := ⟨⟨by decide +kernel, by decide +kernel⟩, List.mem_of_getElem? (i := 629) (by decide +kernel), List.mem_of_getElem? (i := 842) (by decide +kernel), List.mem_of_getElem? (i := 843) (by decide +kernel)⟩
theorem lw_p25 : lw_okq (⟨"PeerAuditModel", "proves", "(IIII)V"⟩, 5) := ⟨⟨by decide +kernel, by decide +kernel⟩, List.mem_of_getElem? (i := 629) (by decide +kernel), List.mem_of_getElem? (i := 846) (by decide +kernel), List.mem_of_getElem? (i := 847) (by decide +kernel)⟩
theorem lw_p26 : lw_okq (⟨"PeerAuditModel", "replayed", "(I)I"⟩, 5) := ⟨⟨by decide +kernel, by decide +kernel⟩, List.mem_of_getElem? (i := 629) (by decide +kernel), List.mem_of_getElem? (i := 850) (by decide +kernel), List.mem_of_getElem? (i := 851) (by decide +kernel)⟩
theorem lw_p27 : lw_okq (⟨"PeerAuditModel", "mix", "(I)V"⟩, 5) := ⟨⟨by decide +kernel, by decide +kernel⟩, List.mem_of_getElem? (i := 629) (by decide +kernel), List.mem_of_getElem? (i := 879) (by decide +kernel), List.mem_of_getElem? (i := 880) (by decide +kernel)⟩
theorem lw_p28 : lw_okq (⟨"PeerAuditModel", "mixMachine", "(I)V"⟩, 5) := ⟨⟨by decide +kernel, by decide +kernel⟩, List.mem_of_getElem? (i := 629) (by decide +kernel), List.mem_of_getElem? (i := 883) (by decide +kernel), List.mem_of_getElem? (i := 884) (by decide +kernel)⟩
def lw_privs_2 : List (MethodName × Nat) := [(⟨"PeerAuditModel", "puts", "(IIIIII)V"⟩, 5), (⟨"PeerAuditModel", "isBarred", "()Z"⟩, 5), (⟨"PeerAuditModel", "delivers", "()V"⟩, 5), (⟨"PeerAuditModel", "comesToHold", "(IIII)V"⟩, 5), (⟨"PeerAuditModel", "isEntry", "(II)Z"⟩, 5), (⟨"PeerAuditModel", "isWitness", "(II)Z"⟩, 5), (⟨"PeerAuditModel", "judged", "(II)I"⟩, 5), (⟨"PeerAuditModel", "mismatch", "(I)I"⟩, 5), (⟨"PeerAuditModel", "exposes", "(IIII)I"⟩, 5), (⟨"PeerAuditModel", "proves", "(IIII)V"⟩, 5), (⟨"PeerAuditModel", "replayed", "(I)I"⟩, 5), (⟨"PeerAuditModel", "mix", "(I)V"⟩, 5), (⟨"PeerAuditModel", "mixMachine", "(I)V"⟩, 5)]
theorem lw_r2 : ∀ q ∈ lw_privs_2, lw_okq q := List.forall_mem_cons.mpr ⟨lw_p16, List.forall_mem_cons.mpr ⟨lw_p17, List.forall_mem_cons.mpr ⟨lw_p18, List.forall_mem_cons.mpr ⟨lw_p19, List.forall_mem_cons.mpr ⟨lw_p20, List.forall_mem_cons.mpr ⟨lw_p21, List.forall_mem_cons.mpr ⟨lw_p22, List.forall_mem_cons.mpr ⟨lw_p23, List.forall_mem_cons.mpr ⟨lw_p24, List.forall_mem_cons.mpr ⟨lw_p25, List.forall_mem_cons.mpr ⟨lw_p26, List.forall_mem_cons.mpr ⟨lw_p27, List.forall_mem_cons.mpr ⟨lw_p28, fun _ h => absurd h List.not_mem_nil⟩⟩⟩⟩⟩⟩⟩⟩⟩⟩⟩⟩⟩
def lw_privs : List (MethodName × Nat) := lw_privs_1 ++ (lw_privs_2)
def lw_tbl : List Cond := k2_sels lw_privs ++ tables_1
theorem lw_privs_ok : ∀ q ∈ lw_privs, lw_okq q := by
  show ∀ q ∈ lw_privs_1 ++ (lw_privs_2), lw_okq q
  exact List.forall_mem_append.mpr ⟨lw_r1, lw_r2⟩
end
section
/-! ===== BEGIN words of one list among another's, by their places ===== -/
theorem goodIn_r {big : List Cond} (ws : List Cond) (ps : List Nat) (hp : ws = ps.filterMap (fun i => big[i]?)) (h : ws.all goodWord = true) : GoodIn big ws := by
  intro w hw
  have h1 := List.all_eq_true.mp h w hw
  rw [hp] at hw
  obtain ⟨i, -, hi⟩ := List.mem_filterMap.mp hw
  have hm : w ∈ big := by first | exact List.mem_of_getElem? hi | exact List.getElem?_mem hi
  exact ⟨hm, good_of_word h1⟩
theorem goodIn_app {big a b : List Cond} (ha : GoodIn big a) (hb : GoodIn big b) : GoodIn big (a ++ b) := fun w h => (List.mem_append.mp h).elim (ha w) (hb w)
theorem goodIn_ca {big a b : List Cond} {c : Cond} (ha : GoodIn big (c :: a)) (hb : GoodIn big b) : GoodIn big (c :: (a ++ b)) := fun w h => (List.mem_cons.mp h).elim (fun e => ha w (List.mem_cons.mpr (Or.inl e))) (fun h => (List.mem_append.mp h).elim (fun h => ha w (List.mem_cons.mpr (Or.inr h))) (hb w))
theorem goodIn_sub {big ws : List Cond} (hm : ∀ w ∈ ws, w ∈ big) (h : ws.all goodWord = true) : GoodIn big ws := fun w hw => ⟨hm w hw, good_of_word (List.all_eq_true.mp h w hw)⟩
/-! ===== END ===== -/

/-! ===== BEGIN exceptions that leave a method, and their catching by the caller (launches without stack traces) ===== -/
section VXA
/-! The laws vx_back, vx_callV, vx_callS, vx_callSW, vx_throw0, vx_throwS follow proofs of the library, with one case more: JvmDerived/Free/Laws.lean (Back.of_free), Shelf42/LK1.lean (callV, callS), Shelf/KitTraced.lean (throwNew0V, throwNewS). -/
/-- where a method has thrown q: the class by its name, the cell, what was written, the world -/
def vx_T (XC : String → State → State → Prop) (st : State) (q : Addr) (t : State) (mc ms : Nat) (free : Addr → Prop) : Prop :=
  ∃ (E : String) (ce : Cell) (L : List Loc), XC E st t ∧ t.heap[q]? = some ce ∧ ce.vm = .none ∧ st.vm.findClass E = some ce.cls ∧ st.WarmedH t.vm ∧ st.sameButNew ({ t with vm := st.vm } : State) L mc ms ∧ ∀ z ∈ L, free z.base
def vx_Q (Qc : Array Value → State → Outcome → State → Prop) (XC : String → State → State → Prop) (mc ms : Nat) (free : Addr → Prop) : Array Value → State → Outcome → State → Prop := fun a st o t =>
  (Qc a st o t ∧ ∃ L, FrameEnd st o t L mc ms ∧ ∀ q ∈ L, free q.base) ∨ ∃ q, o = .threw q ∧ vx_T XC st q t mc ms free
/-- a callee that returns or throws -/
def vx_Met (l : Launch) (y : MethodName) (ws : List Cond) (rm : Room) (Pc : Array Value → State → Prop) (Qc : Array Value → State → Outcome → State → Prop) (XC : String → State → State → Prop) (mc ms : Nat) (free : Addr → Prop) : Prop :=
  MetFree l y (headSpec ws rm) Pc (fun _ _ _ _ _ => True) (vx_Q Qc XC mc ms free)
def vx_Post (XC : String → State → State → Prop) (mc ms : Nat) (free : Addr → Prop) : Pt → Array Value → Addr → Pt → Prop := fun A a q B =>
  ∃ (g : JFrame) (mk : MethodId) (t : State) (L : List Loc) (E : String) (ce : Cell), B.U.heap = t.heap ∧ B.U.vm = t.vm ∧ XC E (A.U.calling g mk a) t ∧ t.heap[q]? = some ce ∧ ce.vm = .none ∧ A.U.vm.findClass E = some ce.cls ∧ B.locs = A.locs ++ L ∧ (∀ z ∈ L, free z.base) ∧ B.cells = A.cells + mc ∧ B.slots = A.slots + ms
def vx_Back (l : Launch) (R : Room) (p : Program) (e : Env) (below : List Frame) (s : State) (sargs : Array Value) (y : MethodName) (len W9 : Nat)
    (Pre : Pt → Array Value → Prop) (Post : Pt → Array Value → Option Value → Pt → Prop) (PostX : Pt → Array Value → Addr → Pt → Prop) : Prop :=
  ∀ (m : MethodId) (meth : Method) (c : Code) (A : Pt) (g : JFrame) (ig : Instr) (mk : MethodId) (a : Array Value),
    Stand p l e R s m sargs below meth c A.U A.locs A.cells A.slots → g.method = m → g.locals.size = c.maxLocals → decode c.code g.pc = .ok (ig, len) →
    2 * g.monitorRoom + (g.stack.map fun v => v.category).sum ≤ W9 → A.U.methodNamed? y = some mk → Pre A a →
    (∃ (v : Option Value) (B : Pt), Stand p l e R s m sargs below meth c B.U B.locs B.cells B.slots ∧ Post A a v B ∧
      Steps p.tables e below (doInvoke e (A.U.setTop g) [] mk a).1 (B.U.setTop { g with pc := g.pc + len, stack := v.toList ++ g.stack })) ∨
    (∃ (q : Addr) (B : Pt), Stand p l e R s m sargs below meth c B.U B.locs B.cells B.slots ∧ PostX A a q B ∧
      Steps p.tables e below (doInvoke e (A.U.setTop g) [] mk a).1 ((B.U.setTop g).pushFrame (.throwing q)))
section Payer
variable {l : Launch} {R : Room} {p : Program} {e : Env} {below : List Frame} {s : State} {sargs : Array Value} {y : MethodName} {len W9 : Nat}
theorem vx_back {ws : List Cond} {rm : Room} {Pc : Array Value → State → Prop} {Qc : Array Value → State → Outcome → State → Prop} {XC : String → State → State → Prop} {mc ms : Nat} {free : Addr → Prop} {bytes : ByteArray} {maxL : Nat} {ret : Option FieldType}
    (hM : vx_Met l y ws rm Pc Qc XC mc ms free) (hblind : FrameBlind Pc) (hrc : rm.cells = mc) (hrs : rm.slots = ms)
    (hframes : rm.frames + 1 ≤ R.frames) (hlocals : W9 + (maxL + 11) + rm.locals ≤ R.locals)
    (hws : ∀ w ∈ ws, ∀ a' U, s.WarmedH U.vm → w.before a' U = true) (hcode : Cond.code y bytes maxL ret ∈ ws) (hinit : ∀ a' U, s.WarmedH U.vm → (Cond.initialized y.cls).before a' U = true) :
    vx_Back l R p e below s sargs y len W9 (PreOf R mc ms Pc) (PostOf Qc mc ms free) (vx_Post XC mc ms free) := by
  intro m meth c A g ig mk a X hg hsize hdg hW hn hp
  have h1 : (headSpec ws rm).pre.before a A.U = true := atoms_intro fun w hw => hws w hw _ _ X.warmed
  have h2 : (Cond.code y bytes maxL ret).before a A.U = true := hws _ hcode _ _ X.warmed
  have h3 : (Cond.initialized y.cls).before a A.U = true := hinit _ _ X.warmed
  have h4 : A.cells + (headSpec ws rm).room.cells ≤ R.cells := by rw [show (headSpec ws rm).room.cells = mc from hrc]; exact hp.1
  have h5 : A.slots + (headSpec ws rm).room.slots ≤ R.slots := by rw [show (headSpec ws rm).room.slots = ms from hrs]; exact hp.2.1
  have hPc : Pc a (A.U.calling g mk a) := hblind _ _ _ _ hp.2.2
  obtain ⟨U, Ls, c0, s0⟩ := A
  dsimp only [Pt.U, Pt.locs, Pt.cells, Pt.slots] at h1 h2 h3 h4 h5 X hn hPc ⊢
  obtain ⟨methY, cY, hmY, hcY, -, hlY, -, -, -, -⟩ := Cond.code_spec hn h2
  obtain ⟨kY, hkY, -⟩ := className_of_methodNamed hn
  have hinitY : kY.init = .initialized := Cond.initialized_spec (findClass_of_methodNamed hn) hkY h3
  have h : At U g.method c below := by rw [hg]; exact X.here
  have hlocals9 : W9 + (maxL + 11) + (headSpec ws rm).room.locals ≤ R.locals := hlocals
  have happ : (headSpec ws rm).appliesLoose y e.platform (U.calling g mk a) = true :=
    Spec.appliesLoose_calling (g := g) h hdg hn hkY hinitY
      (X.room_calling (g := g) (R' := (headSpec ws rm).room) hsize hmY hcY hframes (by rw [hlY]; omega) h4 h5) h1
  obtain ⟨mid, hmid⟩ := h.above
  have hfr : (U.setTop g).frames = (.java g :: mid) ++ below := by rw [State.frames_setTop' g h.top, hmid]; rfl
  obtain ⟨o, s₂, hsteps, -, hend, hq⟩ := Steps.callFree hM p X.admits X.cas X.clock (acts := []) hfr happ hPc trivial
  have hq' : vx_Q Qc XC mc ms free a (U.calling g mk a) o s₂ := hq
  rw [State.frames_setTop' g h.top] at hend
  obtain ⟨g₀, hg0⟩ := Option.isSome_iff_exists.mp h.top
  obtain ⟨r, hr⟩ := State.topJava?_eq_some.mp hg0
  have hr' : (({ U with heap := s₂.heap, slotsUsed := s₂.slotsUsed } : State).setVm s₂.vm).frames = .java g₀ :: r := hr
  rcases hq' with ⟨hqc, L, hfe, hL⟩ | ⟨q, rfl, E, ce, L, hx, hce, hcv, hcl, hW₂, hsm, hL⟩
  · obtain ⟨⟨v, rfl⟩, hW₂, e2, q2, q3, q4, q5, q6⟩ := id hfe
    have e3 : s₂ = ({ (U.calling g mk a).setFrames s₂.frames with heap := s₂.heap, slotsUsed := s₂.slotsUsed } : State).setVm s₂.vm := by
      have : s₂ = ({ s₂ with vm := (U.calling g mk a).vm } : State).setVm s₂.vm := rfl
      rw [e2] at this
      exact this
    obtain ⟨c₂, i₂, len₂, hc₂, hd₂, hf₂⟩ := hend
    have hW' : U.WarmedH s₂.vm := hW₂
    have hcc : c₂ = c := by
      have h1 : s₂.code? g.method = U.code? g.method := by
        rw [State.code?_eq, State.code?_eq, hW'.alike.method?]
      exact Option.some.inj (hc₂.symm.trans (h1.trans h.code))
    subst hcc
    have hlen : len₂ = len := by rw [hdg] at hd₂; cases hd₂; rfl
    subst hlen
    have hs₂ : s₂ = (({ U with heap := s₂.heap, slotsUsed := s₂.slotsUsed } : State).setVm s₂.vm).setTop { g with pc := g.pc + len₂, stack := v.toList ++ g.stack } := by
      refine e3.trans ?_
      rw [hf₂, State.calling_eq h.top, State.setFrames_setFrames, State.setTop_of_frames _ hr', hr]
      rfl
    have hsame : U.sameButNew ({ U with heap := s₂.heap, slotsUsed := s₂.slotsUsed } : State) L mc ms := by
      refine ⟨?_, q2, q3, q4, q5, q6⟩
      obtain ⟨t, ht, -⟩ := State.frames_cons hr
      show ({ U with heap := s₂.heap, slotsUsed := s₂.slotsUsed } : State) = { U.setFrames U.frames with heap := s₂.heap, slotsUsed := s₂.slotsUsed }
      rw [State.setFrames_self ht]
    subst hg
    refine Or.inl ⟨v, ⟨(({ U with heap := s₂.heap, slotsUsed := s₂.slotsUsed } : State).setVm s₂.vm), Ls ++ L, c0 + mc, s0 + ms⟩,
      ⟨X.admits, X.cas, X.clock, X.frames, X.room, X.hears, X.method, X.code, (X.here.setHeapUsed s₂.heap s₂.slotsUsed).setVm hW'.alike, X.tail, State.WarmedH.trans X.warmed hW', X.limits, X.bytes, X.same.trans (hsame.setVm s.vm)⟩,
      ⟨g, mk, s₂, L, rfl, rfl, hqc, rfl, hL, rfl, rfl⟩, ?_⟩
    show Steps p.tables e below _ ((({ U with heap := s₂.heap, slotsUsed := s₂.slotsUsed } : State).setVm s₂.vm).setTop { g with pc := g.pc + len₂, stack := v.toList ++ g.stack })
    rw [← hs₂]
    exact hsteps
  · obtain ⟨e2, q2, q3, q4, q5, q6⟩ := id hsm
    have e3 : s₂ = ({ (U.calling g mk a).setFrames s₂.frames with heap := s₂.heap, slotsUsed := s₂.slotsUsed } : State).setVm s₂.vm := by
      have : s₂ = ({ s₂ with vm := (U.calling g mk a).vm } : State).setVm s₂.vm := rfl
      rw [e2] at this
      exact this
    have hf₂ : s₂.frames = .throwing q :: .java g :: U.frames.tail := hend
    have hW' : U.WarmedH s₂.vm := hW₂
    have hs₂ : s₂ = ((({ U with heap := s₂.heap, slotsUsed := s₂.slotsUsed } : State).setVm s₂.vm).setTop g).pushFrame (.throwing q) := by
      refine e3.trans ?_
      rw [hf₂, State.calling_eq h.top, State.setFrames_setFrames, State.pushFrame, State.frames_setTop _ hr', State.setTop_of_frames _ hr', State.setFrames_setFrames, hr]
      rfl
    have hsame : U.sameButNew ({ U with heap := s₂.heap, slotsUsed := s₂.slotsUsed } : State) L mc ms := by
      refine ⟨?_, q2, q3, q4, q5, q6⟩
      obtain ⟨t, ht, -⟩ := State.frames_cons hr
      show ({ U with heap := s₂.heap, slotsUsed := s₂.slotsUsed } : State) = { U.setFrames U.frames with heap := s₂.heap, slotsUsed := s₂.slotsUsed }
      rw [State.setFrames_self ht]
    subst hg
    refine Or.inr ⟨q, ⟨(({ U with heap := s₂.heap, slotsUsed := s₂.slotsUsed } : State).setVm s₂.vm), Ls ++ L, c0 + mc, s0 + ms⟩,
      ⟨X.admits, X.cas, X.clock, X.frames, X.room, X.hears, X.method, X.code, (X.here.setHeapUsed s₂.heap s₂.slotsUsed).setVm hW'.alike, X.tail, State.WarmedH.trans X.warmed hW', X.limits, X.bytes, X.same.trans (hsame.setVm s.vm)⟩,
      ⟨g, mk, s₂, L, E, ce, rfl, rfl, hx, hce, hcv, hcl, rfl, hL, rfl, rfl⟩, ?_⟩
    show Steps p.tables e below _ (((({ U with heap := s₂.heap, slotsUsed := s₂.slotsUsed } : State).setVm s₂.vm).setTop g).pushFrame (.throwing q))
    rw [← hs₂]
    exact hsteps
end Payer
section Calls
variable {p : Program} {l : Launch} {e : Env} {R : Room} {s : State} {m : MethodId} {args : Array Value} {below : List Frame} {meth : Method} {c : Code} {T : State} {locs : List Loc} {cells slots : Nat}
theorem vx_callV (X : Stand p l e R s m args below meth c T locs cells slots) (hexec : p.tables.exec = Jvm.exec) {own C : String} {index : Nat} {y : MethodName} {bytes : ByteArray} {maxL : Nat} {ret : Option FieldType}
    (hown : s.vm.findClass own = some m.cls) (hlink : (Cond.methodLink own index y).before args s = true) (hinst : (Cond.instanceMethod y).before args s = true) (hsel : (Cond.selects C y y).before args s = true)
    (hcode : (Cond.code y bytes maxL ret).before args s = true) (hy : y.cls ≠ "java/lang/invoke/MethodHandle" ∧ y.cls ≠ "java/lang/invoke/VarHandle")
    {W9 : Nat} {Pre : Pt → Array Value → Prop} {Post : Pt → Array Value → Option Value → Pt → Prop} {PostX : Pt → Array Value → Addr → Pt → Prop} (hK : vx_Back l R p e below s args y 3 W9 Pre Post PostX)
    {b : Addr} {cellB : Cell} (hcell : T.heap[b]? = some cellB) (hobj : cellB.vm.isStatics = false) (hcls : s.vm.findClass C = some cellB.cls)
    {g : JFrame} (hg : g.method = m) (hsize : g.locals.size = c.maxLocals) {argsL rest : List Value} (hlen : ∀ sig, parseMethodDescriptor y.desc = some sig → argsL.length = sig.parameters.length)
    (hstack : g.stack = argsL.reverse ++ .ref b :: rest) (hW : 2 * g.monitorRoom + (rest.map fun v => v.category).sum ≤ W9) (hdg : decode c.code g.pc = .ok (.invokevirtual index, 3))
    (hpre : ∀ vm₁, s.WarmedH vm₁ → Pre ⟨T.setVm vm₁, locs, cells, slots⟩ (Value.ref b :: argsL).toArray) :
    (∃ (v : Option Value) (vm₁ : Vm) (B : Pt), s.WarmedH vm₁ ∧ Stand p l e R s m args below meth c B.U B.locs B.cells B.slots ∧ Post ⟨T.setVm vm₁, locs, cells, slots⟩ (Value.ref b :: argsL).toArray v B ∧
      ∀ target, Steps p.tables e below (B.U.setTop { g with pc := g.pc + 3, stack := v.toList ++ rest }) target → Steps p.tables e below (T.setTop g) target) ∨
    (∃ (q : Addr) (vm₁ : Vm) (B : Pt), s.WarmedH vm₁ ∧ Stand p l e R s m args below meth c B.U B.locs B.cells B.slots ∧ PostX ⟨T.setVm vm₁, locs, cells, slots⟩ (Value.ref b :: argsL).toArray q B ∧
      Steps p.tables e below (T.setTop g) ((B.U.setTop { g with stack := rest }).pushFrame (.throwing q))) := by
  obtain ⟨mk, methM, hnamed, hmethM, hstM, habM⟩ := Cond.instanceMethod_spec hinst
  obtain ⟨methM', cM, hmethM', -, -, -, -, -, -, hsigM⟩ := Cond.code_spec hnamed hcode
  cases hmethM.symm.trans hmethM'
  obtain ⟨c2, r2, m2, q1, q2, q3, q4, kP, hkP, hkPi⟩ := Cond.selects_spec hsel
  cases hcls.symm.trans q1
  cases (State.methodFound?_of_named hnamed hy).symm.trans q2
  cases hnamed.symm.trans q3
  have hselP : selectMethod e.platform s.vm cellB.cls mk = .method mk := by rw [Launch.admits_selectMethod X.admits]; exact q4
  obtain ⟨vm₁, X₁, hstep₁⟩ := X.invokevirtual hexec hown hlink hnamed hmethM hstM hkP hkPi hy (a := b) (cell := cellB) hcell
    (fun z h => by rw [h] at hobj; cases hobj) hselP hmethM habM hkP hkPi (g := g) hg (argsL := argsL) (rest := rest) (hlen _ hsigM) hstack hdg
  rcases hK m meth c ⟨T.setVm vm₁, locs, cells, slots⟩ { g with stack := rest } (.invokevirtual index) mk (Value.ref b :: argsL).toArray X₁ hg hsize hdg hW (X₁.named hnamed) (hpre vm₁ X₁.warmed) with ⟨v, B, X', hpost, hsteps⟩ | ⟨q, B, X', hpost, hsteps⟩
  · exact Or.inl ⟨v, vm₁, B, X₁.warmed, X', hpost, fun target h => hstep₁ _ fun acts => by rw [doInvoke_state]; exact hsteps.trans h⟩
  · exact Or.inr ⟨q, vm₁, B, X₁.warmed, X', hpost, hstep₁ _ fun acts => by rw [doInvoke_state]; exact hsteps⟩
theorem vx_callS (X : Stand p l e R s m args below meth c T locs cells slots) (hexec : p.tables.exec = Jvm.exec) {own : String} {index : Nat} {y : MethodName} {bytes : ByteArray} {maxL : Nat} {ret : Option FieldType}
    (hown : s.vm.findClass own = some m.cls) (hlink : (Cond.methodLink own index y).before args s = true) (hstat : (Cond.static y).before args s = true) (hinit : (Cond.initialized y.cls).before args s = true)
    (hcode : (Cond.code y bytes maxL ret).before args s = true) (hy : y.cls ≠ "java/lang/invoke/MethodHandle" ∧ y.cls ≠ "java/lang/invoke/VarHandle")
    {W9 : Nat} {Pre : Pt → Array Value → Prop} {Post : Pt → Array Value → Option Value → Pt → Prop} {PostX : Pt → Array Value → Addr → Pt → Prop} (hK : vx_Back l R p e below s args y 3 W9 Pre Post PostX)
    {g : JFrame} (hg : g.method = m) (hsize : g.locals.size = c.maxLocals) {argsL rest : List Value} (hlen : ∀ sig, parseMethodDescriptor y.desc = some sig → argsL.length = sig.parameters.length)
    (hstack : g.stack = argsL.reverse ++ rest) (hW : 2 * g.monitorRoom + (rest.map fun v => v.category).sum ≤ W9) (hdg : decode c.code g.pc = .ok (.invokestatic index, 3))
    (hpre : ∀ vm₁, s.WarmedH vm₁ → Pre ⟨T.setVm vm₁, locs, cells, slots⟩ argsL.toArray) :
    (∃ (v : Option Value) (vm₁ : Vm) (B : Pt), s.WarmedH vm₁ ∧ Stand p l e R s m args below meth c B.U B.locs B.cells B.slots ∧ Post ⟨T.setVm vm₁, locs, cells, slots⟩ argsL.toArray v B ∧
      ∀ target, Steps p.tables e below (B.U.setTop { g with pc := g.pc + 3, stack := v.toList ++ rest }) target → Steps p.tables e below (T.setTop g) target) ∨
    (∃ (q : Addr) (vm₁ : Vm) (B : Pt), s.WarmedH vm₁ ∧ Stand p l e R s m args below meth c B.U B.locs B.cells B.slots ∧ PostX ⟨T.setVm vm₁, locs, cells, slots⟩ argsL.toArray q B ∧
      Steps p.tables e below (T.setTop g) ((B.U.setTop { g with stack := rest }).pushFrame (.throwing q))) := by
  obtain ⟨mk, hnamed⟩ := Cond.code_named hcode
  obtain ⟨methM, cM, hmethM, -, -, -, -, -, -, hsigM⟩ := Cond.code_spec hnamed hcode
  have hstatic : methM.isStatic = true := Cond.static_spec hnamed hmethM hstat
  obtain ⟨kP, hkP, -⟩ := className_of_methodNamed hnamed
  have hinitP : kP.init = .initialized := Cond.initialized_spec (findClass_of_methodNamed hnamed) hkP hinit
  obtain ⟨vm₁, X₁, hstep₁⟩ := X.invokestatic hexec hown hlink hnamed hmethM hstatic hkP hinitP hy (g := g) hg (argsL := argsL) (rest := rest) (hlen _ hsigM) hstack hdg
  rcases hK m meth c ⟨T.setVm vm₁, locs, cells, slots⟩ { g with stack := rest } (.invokestatic index) mk argsL.toArray X₁ hg hsize hdg hW (X₁.named hnamed) (hpre vm₁ X₁.warmed) with ⟨v, B, X', hpost, hsteps⟩ | ⟨q, B, X', hpost, hsteps⟩
  · exact Or.inl ⟨v, vm₁, B, X₁.warmed, X', hpost, fun target h => hstep₁ _ fun acts => by rw [doInvoke_state]; exact hsteps.trans h⟩
  · exact Or.inr ⟨q, vm₁, B, X₁.warmed, X', hpost, hstep₁ _ fun acts => by rw [doInvoke_state]; exact hsteps⟩
end Calls
theorem vx_cls {s : State} {T : State} {vm₁ : Vm} {E : String} {k : ClassId} (hW : s.WarmedH vm₁) (h : (T.setVm vm₁).vm.findClass E = some k) : s.vm.findClass E = some k := by
  have h1 : vm₁.findClass E = some k := h
  rw [hW.alike.findClass] at h1
  exact h1
/-- the method's frame g, with q thrown over it -/
def vx_W (p : Program) (l : Launch) (e : Env) (R : Room) (s : State) (m : MethodId) (args : Array Value) (below : List Frame) (meth : Method) (c : Code) (H : Heap) (locs : List Loc) (cells slots : Nat) (Q : State → Prop) (g : JFrame) (q : Addr) : Prop :=
  ∀ T : State, T.heap = H → Stand p l e R s m args below meth c T locs cells slots → ∃ t, Steps p.tables e below ((T.setTop g).pushFrame (.throwing q)) t ∧ Q t
def vx_Run (p : Program) (l : Launch) (e : Env) (R : Room) (s : State) (m : MethodId) (args : Array Value) (below : List Frame) (meth : Method) (c : Code) (H : Heap) (locs : List Loc) (cells slots mc ms : Nat) (g : JFrame) (rest : List Value) (Qa : State → Outcome → State → Prop) (XC : String → State → State → Prop) (free : Addr → Prop) : Prop :=
  ∀ T : State, T.heap = H → Stand p l e R s m args below meth c T locs cells slots →
    (∃ (v : Option Value) (st₀ t T' : State) (L : List Loc), st₀.heap = H ∧ Stand p l e R s m args below meth c T' (locs ++ L) (cells + mc) (slots + ms) ∧ (∀ q ∈ L, free q.base) ∧ T'.heap = t.heap ∧ T'.vm = t.vm ∧ Qa st₀ (.returned v) t ∧
      Goes p e below T g T' { g with pc := g.pc + 3, stack := v.toList ++ rest }) ∨
    (∃ (q : Addr) (st₀ t T' : State) (L : List Loc) (E : String) (ce : Cell), st₀.heap = H ∧ Stand p l e R s m args below meth c T' (locs ++ L) (cells + mc) (slots + ms) ∧ (∀ z ∈ L, free z.base) ∧ T'.heap = t.heap ∧ T'.vm = t.vm ∧ XC E st₀ t ∧ t.heap[q]? = some ce ∧ ce.vm = .none ∧ s.vm.findClass E = some ce.cls ∧
      Steps p.tables e below (T.setTop g) ((T'.setTop { g with stack := rest }).pushFrame (.throwing q)))
def vx_X {S : Type} (px : S → Prop) (B : String → S → State → Prop) (A : Nat → Prop) : String → State → State → Prop := fun E st t => ∃ u : S, px u ∧ B E u t ∧ va_F A st t
section Runs
variable {p : Program} {l : Launch} {e : Env} {R : Room} {s : State} {m : MethodId} {args : Array Value} {below : List Frame} {meth : Method} {c : Code} {H : Heap} {locs : List Loc} {cells slots : Nat}
variable {y : MethodName} {bytes cc : ByteArray} {maxL nL mc ms n index : Nat} {ret : Option FieldType} {ws : List Cond} {rm : Room} {Pc : Array Value → State → Prop} {Qc : Array Value → State → Outcome → State → Prop} {XC : String → State → State → Prop} {free : Addr → Prop} {Ts : List Cond} {own C : String} {b : Addr} {As rest : List Value} {g : JFrame}
theorem vx_callBack (cb : CallB R s args own index y bytes maxL ret ws rm mc ms n) (hM : vx_Met l y ws rm Pc Qc XC mc ms free) (hbl : FrameBlind Pc) : vx_Back l R p e below s args y 3 8 (PreOf R mc ms Pc) (PostOf Qc mc ms free) (vx_Post XC mc ms free) := by
  obtain ⟨hrc, hrs, hfr, hlo, hws, hcw, -, hini, -⟩ := cb
  exact vx_back (bytes := bytes) (maxL := maxL) (ret := ret) hM hbl hrc hrs hfr hlo hws hcw (fun a' U hW => word_at hW (Or.inl (by first | rfl | simp [Cond.onTables, Cond.keeps, Cond.steady])) hini)
theorem vx_runV (S : CallFix p m c cc nL s args Ts own) (hM : vx_Met l y ws rm Pc Qc XC mc ms free) (cw : CallW R s args own C index y bytes maxL ret ws rm mc ms n) (hp : PreV s H C b Pc As)
    (hg : g.method = m) (hn : As.length = n) (hsize : g.locals.size = nL) (hstack : g.stack = As.reverse ++ .ref b :: rest) (hW : 2 * g.monitorRoom + (rest.map fun v => v.category).sum ≤ 8) (hdg : decode cc g.pc = .ok (.invokevirtual index, 3)) (hf : cells + mc ≤ R.cells ∧ slots + ms ≤ R.slots) :
    vx_Run p l e R s m args below meth c H locs cells slots mc ms g rest (Qc (Value.ref b :: As).toArray) XC free := by
  have hK : vx_Back l R p e below s args y 3 8 (PreOf R mc ms Pc) (PostOf Qc mc ms free) (vx_Post XC mc ms free) := vx_callBack cw.1 hM hp.1
  obtain ⟨⟨-, -, -, -, -, -, hcode, -, hy, hlen, hl⟩, hin, hse⟩ := cw
  obtain ⟨hx, hb, hml, ho, -⟩ := S
  obtain ⟨-, ⟨cellB, hcB, hoB, hclB⟩, hPc⟩ := hp
  intro T hT X
  rcases vx_callV X hx (C := C) (bytes := bytes) (maxL := maxL) (ret := ret) ho hl hin hse hcode hy hK (by rw [hT]; exact hcB) hoB hclB hg (hsize.trans hml.symm) (argsL := As) (rest := rest) (fun sig h => hn.trans (hlen sig h)) hstack hW (by rw [hb]; exact hdg)
    (fun vm₁ hW₁ => ⟨hf.1, hf.2, hPc (T.setVm vm₁) hT hW₁⟩) with ⟨v, vm₁, ⟨U', l2, c2, s2⟩, hW₁, X', ⟨g', mk, t, L, e1, e2, hq, h1, hL, h2, h3⟩, st⟩ | ⟨q, vm₁, ⟨U', l2, c2, s2⟩, hW₁, X', ⟨g', mk, t, L, E, ce, e1, e2, hq, hce, hcv, hcl, h1, hL, h2, h3⟩, st⟩
  · dsimp only [Pt.U, Pt.locs, Pt.cells, Pt.slots] at X' e1 e2 h1 h2 h3 st
    subst h1; subst h2; subst h3
    exact Or.inl ⟨v, (T.setVm vm₁).calling g' mk (Value.ref b :: As).toArray, t, U', L, hT, X', hL, e1, e2, hq, st⟩
  · dsimp only [Pt.U, Pt.locs, Pt.cells, Pt.slots] at X' e1 e2 h1 h2 h3 st hcl
    subst h1; subst h2; subst h3
    exact Or.inr ⟨q, (T.setVm vm₁).calling g' mk (Value.ref b :: As).toArray, t, U', L, E, ce, hT, X', hL, e1, e2, hq, hce, hcv, vx_cls hW₁ hcl, st⟩
theorem vx_runS (S : CallFix p m c cc nL s args Ts own) (hM : vx_Met l y ws rm Pc Qc XC mc ms free) (cw : CallB R s args own index y bytes maxL ret ws rm mc ms n ∧ (Cond.static y).before args s = true) (hp : PreS s H Pc As)
    (hg : g.method = m) (hn : As.length = n) (hsize : g.locals.size = nL) (hstack : g.stack = As.reverse ++ rest) (hW : 2 * g.monitorRoom + (rest.map fun v => v.category).sum ≤ 8) (hdg : decode cc g.pc = .ok (.invokestatic index, 3)) (hf : cells + mc ≤ R.cells ∧ slots + ms ≤ R.slots) :
    vx_Run p l e R s m args below meth c H locs cells slots mc ms g rest (Qc As.toArray) XC free := by
  have hK : vx_Back l R p e below s args y 3 8 (PreOf R mc ms Pc) (PostOf Qc mc ms free) (vx_Post XC mc ms free) := vx_callBack cw.1 hM hp.1
  obtain ⟨⟨-, -, -, -, -, -, hcode, hini, hy, hlen, hl⟩, hstt⟩ := cw
  obtain ⟨hx, hb, hml, ho, -⟩ := S
  intro T hT X
  rcases vx_callS X hx (bytes := bytes) (maxL := maxL) (ret := ret) ho hl hstt hini hcode hy hK hg (hsize.trans hml.symm) (argsL := As) (rest := rest) (fun sig h => hn.trans (hlen sig h)) hstack hW (by rw [hb]; exact hdg)
    (fun vm₁ hW₁ => ⟨hf.1, hf.2, hp.2 (T.setVm vm₁) hT hW₁⟩) with ⟨v, vm₁, ⟨U', l2, c2, s2⟩, hW₁, X', ⟨g', mk, t, L, e1, e2, hq, h1, hL, h2, h3⟩, st⟩ | ⟨q, vm₁, ⟨U', l2, c2, s2⟩, hW₁, X', ⟨g', mk, t, L, E, ce, e1, e2, hq, hce, hcv, hcl, h1, hL, h2, h3⟩, st⟩
  · dsimp only [Pt.U, Pt.locs, Pt.cells, Pt.slots] at X' e1 e2 h1 h2 h3 st
    subst h1; subst h2; subst h3
    exact Or.inl ⟨v, (T.setVm vm₁).calling g' mk As.toArray, t, U', L, hT, X', hL, e1, e2, hq, st⟩
  · dsimp only [Pt.U, Pt.locs, Pt.cells, Pt.slots] at X' e1 e2 h1 h2 h3 st hcl
    subst h1; subst h2; subst h3
    exact Or.inr ⟨q, (T.setVm vm₁).calling g' mk As.toArray, t, U', L, E, ce, hT, X', hL, e1, e2, hq, hce, hcv, vx_cls hW₁ hcl, st⟩
end Runs
section Rows
variable {p : Program} {l : Launch} {e : Env} {R : Room} {s : State} {m : MethodId} {args : Array Value} {below : List Frame} {meth : Method} {c : Code} {H : Heap} {locs : List Loc} {cells slots : Nat} {Q : State → Prop}
variable {mc ms : Nat} {free : Addr → Prop} {A0 A1 : Nat → Prop} {H0 : Heap} {a : Array Value} {pc : Nat} {ls : Array Slot} {st0 rest : List Value}
theorem vx_keep {st₀ t T' : State} {L : List Loc} (h0 : st₀.heap = H) (e1 : T'.heap = t.heap) (hS : va_S A0 H0 H locs) (hA : ∀ q, q < H.size → A1 q → A0 q) (hf : ∀ q, free q → A0 q) (hL : ∀ q ∈ L, free q.base) (hF : va_F A1 st₀ t) :
    H.size ≤ T'.heap.size ∧ (∀ q : Nat, q < H.size → ¬ A1 q → T'.heap[q]? = H[q]?) ∧ va_S A0 H0 T'.heap (locs ++ L) := by
  obtain ⟨hz, hk⟩ := hF
  rw [h0] at hz hk
  exact ⟨by rw [e1]; exact hz, fun q h1 h2 => by rw [e1]; exact hk q h1 h2,
    ⟨Nat.le_trans hS.1 (by rw [e1]; exact hz), fun q h1 h2 => by rw [e1, hk q (Nat.lt_of_lt_of_le h1 hS.1) (fun z => h2 (hA q (Nat.lt_of_lt_of_le h1 hS.1) z))]; exact hS.2.1 q h1 h2, fun q hq => by
      rcases List.mem_append.mp hq with h | h
      · exact hS.2.2 q h
      · exact hf _ (hL q h)⟩⟩
theorem vx_calli {S SX : Type} {post : Int32 → S → Prop} {px : SX → Prop} {B : S → State → Prop} {BX : String → SX → State → Prop} {AX : Nat → Prop} (hr : vx_Run p l e R s m args below meth c H locs cells slots mc ms (F0 m pc ls st0) rest (va_Qi post B A1 a) (vx_X px BX AX) free) (hS : va_S A0 H0 H locs) (hA : ∀ q, q < H.size → A1 q → A0 q) (hf : ∀ q, free q → A0 q) (hAX : ∀ q, q < H.size → AX q → A0 q)
    (kx : ∀ (E : String) (ce : Cell) (q9 : Addr) (u : SX) (t : State) (H1 : Heap) (locs1 : List Loc), t.heap = H1 → s.vm.Alike t.vm → px u → BX E u t → H.size ≤ H1.size → (∀ q : Nat, q < H.size → ¬ AX q → H1[q]? = H[q]?) → va_S A0 H0 H1 locs1 → H1[q9]? = some ce → ce.vm = .none → s.vm.findClass E = some ce.cls → vx_W p l e R s m args below meth c H1 locs1 (cells + mc) (slots + ms) Q (F0 m pc ls rest) q9)
    (kk : ∀ (r : Int32) (u : S) (t : State) (H1 : Heap) (locs1 : List Loc), t.heap = H1 → s.vm.Alike t.vm → post r u → B u t → H.size ≤ H1.size → (∀ q : Nat, q < H.size → ¬ A1 q → H1[q]? = H[q]?) → va_S A0 H0 H1 locs1 → W p l e R s m args below meth c H1 locs1 (cells + mc) (slots + ms) Q (F0 m (pc + 3) ls (.int r :: rest))) : W p l e R s m args below meth c H locs cells slots Q (F0 m pc ls st0) := by
  intro T hT X
  rcases hr T hT X with ⟨v, st₀, t, T', L, h0, X', hL, e1, e2, ⟨⟨r, u, hv, hp, hb⟩, hF⟩, st⟩ | ⟨q, st₀, t, T', L, E, ce, h0, X', hL, e1, e2, ⟨u, hp, hb, hF⟩, hce, hcv, hcl, st⟩
  · cases hv
    obtain ⟨k1, k2, k3⟩ := vx_keep h0 e1 hS hA hf hL hF
    obtain ⟨t2, a1, b1⟩ := kk r u t T'.heap (locs ++ L) e1.symm (by rw [← e2]; exact X'.warmed.alike) hp hb k1 k2 k3 T' rfl X'
    exact ⟨t2, st t2 a1, b1⟩
  · obtain ⟨k1, k2, k3⟩ := vx_keep h0 e1 hS hAX hf hL hF
    obtain ⟨t2, a1, b1⟩ := kx E ce q u t T'.heap (locs ++ L) e1.symm (by rw [← e2]; exact X'.warmed.alike) hp hb k1 k2 k3 (by rw [e1]; exact hce) hcv hcl T' rfl X'
    exact ⟨t2, st.trans a1, b1⟩
theorem vx_calll {S SX : Type} {post : Int64 → S → Prop} {px : SX → Prop} {B : S → State → Prop} {BX : String → SX → State → Prop} {AX : Nat → Prop} (hr : vx_Run p l e R s m args below meth c H locs cells slots mc ms (F0 m pc ls st0) rest (va_Ql post B A1 a) (vx_X px BX AX) free) (hS : va_S A0 H0 H locs) (hA : ∀ q, q < H.size → A1 q → A0 q) (hf : ∀ q, free q → A0 q) (hAX : ∀ q, q < H.size → AX q → A0 q)
    (kx : ∀ (E : String) (ce : Cell) (q9 : Addr) (u : SX) (t : State) (H1 : Heap) (locs1 : List Loc), t.heap = H1 → s.vm.Alike t.vm → px u → BX E u t → H.size ≤ H1.size → (∀ q : Nat, q < H.size → ¬ AX q → H1[q]? = H[q]?) → va_S A0 H0 H1 locs1 → H1[q9]? = some ce → ce.vm = .none → s.vm.findClass E = some ce.cls → vx_W p l e R s m args below meth c H1 locs1 (cells + mc) (slots + ms) Q (F0 m pc ls rest) q9)
    (kk : ∀ (r : Int64) (u : S) (t : State) (H1 : Heap) (locs1 : List Loc), t.heap = H1 → s.vm.Alike t.vm → post r u → B u t → H.size ≤ H1.size → (∀ q : Nat, q < H.size → ¬ A1 q → H1[q]? = H[q]?) → va_S A0 H0 H1 locs1 → W p l e R s m args below meth c H1 locs1 (cells + mc) (slots + ms) Q (F0 m (pc + 3) ls (.long r :: rest))) : W p l e R s m args below meth c H locs cells slots Q (F0 m pc ls st0) := by
  intro T hT X
  rcases hr T hT X with ⟨v, st₀, t, T', L, h0, X', hL, e1, e2, ⟨⟨r, u, hv, hp, hb⟩, hF⟩, st⟩ | ⟨q, st₀, t, T', L, E, ce, h0, X', hL, e1, e2, ⟨u, hp, hb, hF⟩, hce, hcv, hcl, st⟩
  · cases hv
    obtain ⟨k1, k2, k3⟩ := vx_keep h0 e1 hS hA hf hL hF
    obtain ⟨t2, a1, b1⟩ := kk r u t T'.heap (locs ++ L) e1.symm (by rw [← e2]; exact X'.warmed.alike) hp hb k1 k2 k3 T' rfl X'
    exact ⟨t2, st t2 a1, b1⟩
  · obtain ⟨k1, k2, k3⟩ := vx_keep h0 e1 hS hAX hf hL hF
    obtain ⟨t2, a1, b1⟩ := kx E ce q u t T'.heap (locs ++ L) e1.symm (by rw [← e2]; exact X'.warmed.alike) hp hb k1 k2 k3 (by rw [e1]; exact hce) hcv hcl T' rfl X'
    exact ⟨t2, st.trans a1, b1⟩
theorem vx_callf {S SX : Type} {post : UInt32 → S → Prop} {px : SX → Prop} {B : S → State → Prop} {BX : String → SX → State → Prop} {AX : Nat → Prop} (hr : vx_Run p l e R s m args below meth c H locs cells slots mc ms (F0 m pc ls st0) rest (va_Qf post B A1 a) (vx_X px BX AX) free) (hS : va_S A0 H0 H locs) (hA : ∀ q, q < H.size → A1 q → A0 q) (hf : ∀ q, free q → A0 q) (hAX : ∀ q, q < H.size → AX q → A0 q)
    (kx : ∀ (E : String) (ce : Cell) (q9 : Addr) (u : SX) (t : State) (H1 : Heap) (locs1 : List Loc), t.heap = H1 → s.vm.Alike t.vm → px u → BX E u t → H.size ≤ H1.size → (∀ q : Nat, q < H.size → ¬ AX q → H1[q]? = H[q]?) → va_S A0 H0 H1 locs1 → H1[q9]? = some ce → ce.vm = .none → s.vm.findClass E = some ce.cls → vx_W p l e R s m args below meth c H1 locs1 (cells + mc) (slots + ms) Q (F0 m pc ls rest) q9)
    (kk : ∀ (r : UInt32) (u : S) (t : State) (H1 : Heap) (locs1 : List Loc), t.heap = H1 → s.vm.Alike t.vm → post r u → B u t → H.size ≤ H1.size → (∀ q : Nat, q < H.size → ¬ A1 q → H1[q]? = H[q]?) → va_S A0 H0 H1 locs1 → W p l e R s m args below meth c H1 locs1 (cells + mc) (slots + ms) Q (F0 m (pc + 3) ls (.float r :: rest))) : W p l e R s m args below meth c H locs cells slots Q (F0 m pc ls st0) := by
  intro T hT X
  rcases hr T hT X with ⟨v, st₀, t, T', L, h0, X', hL, e1, e2, ⟨⟨r, u, hv, hp, hb⟩, hF⟩, st⟩ | ⟨q, st₀, t, T', L, E, ce, h0, X', hL, e1, e2, ⟨u, hp, hb, hF⟩, hce, hcv, hcl, st⟩
  · cases hv
    obtain ⟨k1, k2, k3⟩ := vx_keep h0 e1 hS hA hf hL hF
    obtain ⟨t2, a1, b1⟩ := kk r u t T'.heap (locs ++ L) e1.symm (by rw [← e2]; exact X'.warmed.alike) hp hb k1 k2 k3 T' rfl X'
    exact ⟨t2, st t2 a1, b1⟩
  · obtain ⟨k1, k2, k3⟩ := vx_keep h0 e1 hS hAX hf hL hF
    obtain ⟨t2, a1, b1⟩ := kx E ce q u t T'.heap (locs ++ L) e1.symm (by rw [← e2]; exact X'.warmed.alike) hp hb k1 k2 k3 (by rw [e1]; exact hce) hcv hcl T' rfl X'
    exact ⟨t2, st.trans a1, b1⟩
theorem vx_calld {S SX : Type} {post : UInt64 → S → Prop} {px : SX → Prop} {B : S → State → Prop} {BX : String → SX → State → Prop} {AX : Nat → Prop} (hr : vx_Run p l e R s m args below meth c H locs cells slots mc ms (F0 m pc ls st0) rest (va_Qd post B A1 a) (vx_X px BX AX) free) (hS : va_S A0 H0 H locs) (hA : ∀ q, q < H.size → A1 q → A0 q) (hf : ∀ q, free q → A0 q) (hAX : ∀ q, q < H.size → AX q → A0 q)
    (kx : ∀ (E : String) (ce : Cell) (q9 : Addr) (u : SX) (t : State) (H1 : Heap) (locs1 : List Loc), t.heap = H1 → s.vm.Alike t.vm → px u → BX E u t → H.size ≤ H1.size → (∀ q : Nat, q < H.size → ¬ AX q → H1[q]? = H[q]?) → va_S A0 H0 H1 locs1 → H1[q9]? = some ce → ce.vm = .none → s.vm.findClass E = some ce.cls → vx_W p l e R s m args below meth c H1 locs1 (cells + mc) (slots + ms) Q (F0 m pc ls rest) q9)
    (kk : ∀ (r : UInt64) (u : S) (t : State) (H1 : Heap) (locs1 : List Loc), t.heap = H1 → s.vm.Alike t.vm → post r u → B u t → H.size ≤ H1.size → (∀ q : Nat, q < H.size → ¬ A1 q → H1[q]? = H[q]?) → va_S A0 H0 H1 locs1 → W p l e R s m args below meth c H1 locs1 (cells + mc) (slots + ms) Q (F0 m (pc + 3) ls (.double r :: rest))) : W p l e R s m args below meth c H locs cells slots Q (F0 m pc ls st0) := by
  intro T hT X
  rcases hr T hT X with ⟨v, st₀, t, T', L, h0, X', hL, e1, e2, ⟨⟨r, u, hv, hp, hb⟩, hF⟩, st⟩ | ⟨q, st₀, t, T', L, E, ce, h0, X', hL, e1, e2, ⟨u, hp, hb, hF⟩, hce, hcv, hcl, st⟩
  · cases hv
    obtain ⟨k1, k2, k3⟩ := vx_keep h0 e1 hS hA hf hL hF
    obtain ⟨t2, a1, b1⟩ := kk r u t T'.heap (locs ++ L) e1.symm (by rw [← e2]; exact X'.warmed.alike) hp hb k1 k2 k3 T' rfl X'
    exact ⟨t2, st t2 a1, b1⟩
  · obtain ⟨k1, k2, k3⟩ := vx_keep h0 e1 hS hAX hf hL hF
    obtain ⟨t2, a1, b1⟩ := kx E ce q u t T'.heap (locs ++ L) e1.symm (by rw [← e2]; exact X'.warmed.alike) hp hb k1 k2 k3 (by rw [e1]; exact hce) hcv hcl T' rfl X'
    exact ⟨t2, st.trans a1, b1⟩
theorem vx_callv {S SX : Type} {post : S → Prop} {px : SX → Prop} {B : S → State → Prop} {BX : String → SX → State → Prop} {AX : Nat → Prop} (hr : vx_Run p l e R s m args below meth c H locs cells slots mc ms (F0 m pc ls st0) rest (va_Qv post B A1 a) (vx_X px BX AX) free) (hS : va_S A0 H0 H locs) (hA : ∀ q, q < H.size → A1 q → A0 q) (hf : ∀ q, free q → A0 q) (hAX : ∀ q, q < H.size → AX q → A0 q)
    (kx : ∀ (E : String) (ce : Cell) (q9 : Addr) (u : SX) (t : State) (H1 : Heap) (locs1 : List Loc), t.heap = H1 → s.vm.Alike t.vm → px u → BX E u t → H.size ≤ H1.size → (∀ q : Nat, q < H.size → ¬ AX q → H1[q]? = H[q]?) → va_S A0 H0 H1 locs1 → H1[q9]? = some ce → ce.vm = .none → s.vm.findClass E = some ce.cls → vx_W p l e R s m args below meth c H1 locs1 (cells + mc) (slots + ms) Q (F0 m pc ls rest) q9)
    (kk : ∀ (u : S) (t : State) (H1 : Heap) (locs1 : List Loc), t.heap = H1 → s.vm.Alike t.vm → post u → B u t → H.size ≤ H1.size → (∀ q : Nat, q < H.size → ¬ A1 q → H1[q]? = H[q]?) → va_S A0 H0 H1 locs1 → W p l e R s m args below meth c H1 locs1 (cells + mc) (slots + ms) Q (F0 m (pc + 3) ls (rest))) : W p l e R s m args below meth c H locs cells slots Q (F0 m pc ls st0) := by
  intro T hT X
  rcases hr T hT X with ⟨v, st₀, t, T', L, h0, X', hL, e1, e2, ⟨⟨u, hv, hp, hb⟩, hF⟩, st⟩ | ⟨q, st₀, t, T', L, E, ce, h0, X', hL, e1, e2, ⟨u, hp, hb, hF⟩, hce, hcv, hcl, st⟩
  · cases hv
    obtain ⟨k1, k2, k3⟩ := vx_keep h0 e1 hS hA hf hL hF
    obtain ⟨t2, a1, b1⟩ := kk u t T'.heap (locs ++ L) e1.symm (by rw [← e2]; exact X'.warmed.alike) hp hb k1 k2 k3 T' rfl X'
    exact ⟨t2, st t2 a1, b1⟩
  · obtain ⟨k1, k2, k3⟩ := vx_keep h0 e1 hS hAX hf hL hF
    obtain ⟨t2, a1, b1⟩ := kx E ce q u t T'.heap (locs ++ L) e1.symm (by rw [← e2]; exact X'.warmed.alike) hp hb k1 k2 k3 (by rw [e1]; exact hce) hcv hcl T' rfl X'
    exact ⟨t2, st.trans a1, b1⟩
/-- caught by the row x of this method's table; the rows ahead don't take it -/
theorem vx_catch {own name : String} {E : String} {ce : Cell} {q : Addr} (hown : s.vm.findClass own = some m.cls) (pre : List ExceptionTableEntry) (x : ExceptionTableEntry) (suf : List ExceptionTableEntry) (hsplit : c.exceptionTable.toList = pre ++ x :: suf)
    (hpass : ∀ z ∈ pre, covers z pc = false ∨ (z.catchType ≠ 0 ∧ ∃ nm : String, (Cond.classLink own z.catchType nm).before args s = true ∧ va_Nc E nm s)) (hx : covers x pc = true) (h0 : x.catchType ≠ 0)
    (hlink : (Cond.classLink own x.catchType name).before args s = true) (hcast : (Cond.castable E name).before args s = true) (hcell : H[q]? = some ce) (hv : ce.vm = .none) (hcl : s.vm.findClass E = some ce.cls)
    (kk : W p l e R s m args below meth c H locs cells slots Q (F0 m x.handlerPc ls [.ref q])) : vx_W p l e R s m args below meth c H locs cells slots Q (F0 m pc ls rest) q := by
  intro T hT X
  have hpl : e.platform.magicAccessors = ({} : Platform).magicAccessors := by rw [X.admits.platform]
  obtain ⟨c3, c4, hc3, hc4, hasg⟩ := Cond.castable_spec hcast
  cases Option.some.inj (hc3.symm.trans hcl)
  obtain ⟨c5, hc5, hcl5⟩ := Cond.classLink_spec hown hlink e.platform hpl
  cases Option.some.inj (hc4.symm.trans hc5)
  obtain ⟨vm', X', st⟩ := X.thenCaughtThrough q (g := F0 m pc ls rest) rfl (Steps.refl _) (by rw [hT]; exact hcell) (by rw [hv]; rfl) (by obtain ⟨k9, h9, -⟩ := Vm.findClass_spec hcl; exact ⟨k9, h9⟩) pre x suf hsplit
    (fun z hz => by
      rcases hpass z hz with h | ⟨hz0, nm, hl1, hn1⟩
      · exact Or.inl h
      · obtain ⟨c6, hc6, hcl6⟩ := Cond.classLink_spec hown hl1 e.platform hpl
        obtain ⟨a8, b8, h1, h2, h3⟩ := hn1
        cases Option.some.inj (h1.symm.trans hcl)
        cases Option.some.inj (h2.symm.trans hc6)
        exact Or.inr ⟨hz0, _, hcl6, h3⟩) hx (Or.inr ⟨h0, c4, hcl5, hasg⟩)
  obtain ⟨t, a1, b1⟩ := kk (T.setVm vm') hT X'
  exact ⟨t, st.trans a1, b1⟩
end Rows
section Ends
variable {p : Program} {l : Launch} {e : Env} {R : Room} {s : State} {m : MethodId} {args : Array Value} {below : List Frame} {meth : Method} {c : Code} {H : Heap} {locs : List Loc} {cells slots : Nat} {Q : State → Prop}
variable {mc ms : Nat} {free : Addr → Prop} {A0 A1 : Nat → Prop} {H0 : Heap} {a : Array Value} {ls : Array Slot} {st0 rest : List Value}
variable {Qc : Array Value → State → Outcome → State → Prop} {XC : String → State → State → Prop}
/-- what a body that may throw owes at its end -/
def vx_MQ (below : List Frame) (Qc : Array Value → State → Outcome → State → Prop) (XC : String → State → State → Prop) (a : Array Value) (s : State) (mc ms : Nat) (free : Addr → Prop) : State → Prop := fun t =>
  ∃ o, t.status = .running ∧ Ended t below o ∧ vx_Q Qc XC mc ms free a s o t
theorem vx_ret {g : JFrame} {mc ms : Nat} (k : W p l e R s m args below meth c H locs cells slots (MQ below Qc args s mc ms free) g) : W p l e R s m args below meth c H locs cells slots (vx_MQ below Qc XC args s mc ms free) g := by
  intro T hT X
  obtain ⟨t, a1, o, b1, b2, b3, b4⟩ := k T hT X
  exact ⟨t, a1, o, b1, b2, Or.inl ⟨b3, b4⟩⟩
/-- not caught here: it goes on to the caller -/
theorem vx_widen {g : JFrame} {q : Addr} {k n : Nat} (h1 : cells ≤ k) (h2 : slots ≤ n) (kk : vx_W p l e R s m args below meth c H locs k n Q g q) : vx_W p l e R s m args below meth c H locs cells slots Q g q := fun T hT X => kk T hT (stand_widen X h1 h2)
theorem vx_out {pc : Nat} {E : String} {ce : Cell} {q : Addr} {mc ms : Nat} (hout : ∀ x ∈ c.exceptionTable.toList, covers x pc = false) (hlocks : meth.locks = false) (hcell : H[q]? = some ce) (hv : ce.vm = .none) (hcl : s.vm.findClass E = some ce.cls)
    (hx : ∀ t : State, t.heap = H → s.vm.Alike t.vm → XC E s t) (hf : ∀ z ∈ locs, free z.base) (hc : cells ≤ mc) (hs : slots ≤ ms) :
    vx_W p l e R s m args below meth c H locs cells slots (vx_MQ below Qc XC args s mc ms free) (F0 m pc ls rest) q := by
  intro T hT X
  obtain ⟨st1, hrun, hend, hW, hsm⟩ := X.leaveThrown q (g := F0 m pc ls rest) rfl rfl rfl hout hlocks
  have hcell9 : (T.setFrames (.throwing q :: below)).heap[q]? = some ce := by
    show T.heap[q]? = some ce
    rw [hT]; exact hcell
  exact ⟨_, st1, .threw q, hrun, hend, Or.inr ⟨q, rfl, E, ce, locs, hx _ hT hW.alike, hcell9, hv, hcl, hW, hsm.mono hc hs, hf⟩⟩
theorem vx_frame {U : State} {k n : Nat} (h : s.sameButNew ({ U with vm := s.vm } : State) locs k n) : s.heap.size ≤ U.heap.size ∧ ∀ q : Nat, q < s.heap.size → (∀ z ∈ locs, z.base ≠ q) → U.heap[q]? = s.heap[q]? := by
  obtain ⟨-, h2, -, -, -, h6⟩ := h
  refine ⟨h2, fun q hq hz => ?_⟩
  obtain ⟨c9, e1, e2, e3, e4⟩ := h6 q _ (Array.getElem?_eq_getElem hq)
  have hs : c9.slots = (s.heap[q]).slots := Array.ext_getElem? fun i => e4 i fun hm => hz _ hm rfl
  have h9 : c9 = s.heap[q] := by
    rw [hs] at e2
    exact e2
  have e5 : U.heap[q]? = some c9 := e1
  rw [e5, h9, Array.getElem?_eq_getElem hq]
/-- the words of a throw but the four that speak of the heap -/
def vx_no (w : Cond) : Bool := decide (w ≠ .isRef (.static Bundle.tN "UNASSIGNED_STACK" Bundle.steD)) && decide (w ≠ .isRef (.static Bundle.tN "SUPPRESSED_SENTINEL" Bundle.listD)) && decide (w ≠ .laysStatic Bundle.tN "UNASSIGNED_STACK" Bundle.steD) && decide (w ≠ .laysStatic Bundle.tN "SUPPRESSED_SENTINEL" Bundle.listD)
def vx_at0 (own : String) (ic : Nat) (X : String) (names : List String) : List Cond := (Bundle.ownAtoms0 own ic X names).filter vx_no
def vx_atS (own : String) (ic : Nat) (X : String) (names : List String) : List Cond := (Bundle.ownAtoms own ic X names).filter vx_no
/-- a word that the tables alone decide, or a good one -/
def vx_ot (w : Cond) : Bool := w.onTables || goodWord w
theorem vx_ot_at {args a' : Array Value} {s U : State} {w : Cond} (hW : s.WarmedH U.vm) (hvm : s.vm = U.vm) (hg : vx_ot w = true) (h : w.before args s = true) : w.before a' U = true := by
  simp only [vx_ot, Bool.or_eq_true] at hg
  rcases hg with hg | hg
  · exact va_tabs hg hvm h
  · exact word_at hW (good_of_word hg) h
/-- a list's words: the good ones out of the method's own list, the others by premises of their own -/
theorem vx_hat {args : Array Value} {s : State} {L B : List Cond} (h1 : ∀ w ∈ L.filter goodWord, w.before args s = true) (h2 : ∀ w ∈ L.filter (fun w => !goodWord w), w ∈ B) (h3 : ∀ w ∈ B, w.before args s = true) : ∀ w ∈ L, w.before args s = true := by
  intro w hw
  by_cases g : goodWord w = true
  · exact h1 w (List.mem_filter.mpr ⟨hw, g⟩)
  · refine h3 w (h2 w (List.mem_filter.mpr ⟨hw, ?_⟩))
    show (!goodWord w) = true
    cases hgw : goodWord w
    · rfl
    · exact absurd hgw g
theorem vx_c {args : Array Value} {s : State} {w : Cond} {B : List Cond} (h : w.before args s = true) (t : ∀ w ∈ B, w.before args s = true) : ∀ w' ∈ w :: B, w'.before args s = true := fun w' h' => (List.mem_cons.mp h').elim (fun e => by rw [e]; exact h) (t w')
theorem vx_n {args : Array Value} {s : State} : ∀ w ∈ ([] : List Cond), w.before args s = true := fun _ h => nomatch h
theorem vx_own {args : Array Value} {s : State} {L : List Cond} (h1 : ∀ w ∈ L.filter vx_no, w.before args s = true)
    (hU : (Cond.isRef (.static Bundle.tN "UNASSIGNED_STACK" Bundle.steD)).before args s = true) (hN : (Cond.isRef (.static Bundle.tN "SUPPRESSED_SENTINEL" Bundle.listD)).before args s = true)
    (lU : (Cond.laysStatic Bundle.tN "UNASSIGNED_STACK" Bundle.steD).before args s = true) (lN : (Cond.laysStatic Bundle.tN "SUPPRESSED_SENTINEL" Bundle.listD).before args s = true) : ∀ w ∈ L, w.before args s = true := by
  intro w hw
  by_cases e1 : w = .isRef (.static Bundle.tN "UNASSIGNED_STACK" Bundle.steD)
  · rw [e1]; exact hU
  · by_cases e2 : w = .isRef (.static Bundle.tN "SUPPRESSED_SENTINEL" Bundle.listD)
    · rw [e2]; exact hN
    · by_cases e3 : w = .laysStatic Bundle.tN "UNASSIGNED_STACK" Bundle.steD
      · rw [e3]; exact lU
      · by_cases e4 : w = .laysStatic Bundle.tN "SUPPRESSED_SENTINEL" Bundle.listD
        · rw [e4]; exact lN
        · exact h1 w (List.mem_filter.mpr ⟨hw, by unfold vx_no; rw [decide_eq_true e1, decide_eq_true e2, decide_eq_true e3, decide_eq_true e4]; rfl⟩)
/-- where a static field lies, its class's statics cell in H -/
def vx_L (C n d : String) (A : Nat → Prop) (U : State) (H : Heap) : Prop := ∃ (c : ClassId) (k : Class) (i : Nat) (f : Field) (a : Nat) (cell : Cell), U.vm.findClass C = some c ∧ U.fieldFound? C n d = some (c, k, i, f) ∧ f.isStatic = true ∧ k.statics = some a ∧ H[a]? = some cell ∧ cell.vm.isStatics = true ∧ cell.cls = c ∧ f.slot < cell.slots.size ∧ k.staticTypes[f.slot]? = some f.type ∧ ¬ A a
theorem vx_L.moved {C n d : String} {A : Nat → Prop} {u U : State} {H : Heap} (hvm : u.vm.Alike U.vm) (h : vx_L C n d A u H) : vx_L C n d A U H := by
  obtain ⟨c, k, i, f, a, cell, h1, h2, h3, h4, h5, h6, h7, h8, h9, h10⟩ := h
  obtain ⟨k', hi', he⟩ := State.fieldFound?_setVm hvm h2
  exact ⟨c, k', i, f, a, cell, by rw [hvm.findClass]; exact h1, hi', h3, by rw [he]; exact h4, h5, h6, h7, h8, by rw [he]; exact h9, h10⟩
theorem vx_L.kept {C n d : String} {A : Nat → Prop} {U : State} {H H1 : Heap} (h : vx_L C n d A U H) (hq : ∀ a : Nat, a < H.size → ¬ A a → H1[a]? = H[a]?) : vx_L C n d A U H1 := by
  obtain ⟨c, k, i, f, a, cell, h1, h2, h3, h4, h5, h6, h7, h8, h9, h10⟩ := h
  exact ⟨c, k, i, f, a, cell, h1, h2, h3, h4, by rw [hq a (Array.getElem?_eq_some_iff.mp h5).1 h10]; exact h5, h6, h7, h8, h9, h10⟩
theorem vx_L.narrow {C n d : String} {A B : Nat → Prop} {U : State} {H : Heap} (h : vx_L C n d A U H) (hAB : ∀ q, B q → A q) : vx_L C n d B U H := by
  obtain ⟨c, k, i, f, a, cell, h1, h2, h3, h4, h5, h6, h7, h8, h9, h10⟩ := h
  exact ⟨c, k, i, f, a, cell, h1, h2, h3, h4, h5, h6, h7, h8, h9, fun z => h10 (hAB _ z)⟩
theorem vx_L.word {C n d : String} {A : Nat → Prop} {s : State} {args : Array Value} (h : vx_L C n d A s s.heap) : (Cond.laysStatic C n d).before args s = true := by
  obtain ⟨c, k, i, f, a, cell, h1, h2, h3, h4, h5, h6, h7, h8, h9, -⟩ := h
  show (Cond.laysStatic C n d).holds args s none s [] = true
  exact Cond.laysStatic_of h1 h2 h3 h4 h5 h6 h7 h8 h9
/-- .. and what it holds: null or some reference -/
def vx_Zq (C n d : String) (A : Nat → Prop) (U : State) (H : Heap) : Prop := va_Zq C n d A U H ∧ vx_L C n d A U H
theorem vx_Zq.moved {C n d : String} {A : Nat → Prop} {u U : State} {H : Heap} (hvm : u.vm.Alike U.vm) (h : vx_Zq C n d A u H) : vx_Zq C n d A U H := ⟨va_Zq.moved hvm h.1, vx_L.moved hvm h.2⟩
theorem vx_Zq.kept {C n d : String} {A : Nat → Prop} {U : State} {H H1 : Heap} (h : vx_Zq C n d A U H) (hq : ∀ a : Nat, a < H.size → ¬ A a → H1[a]? = H[a]?) : vx_Zq C n d A U H1 := ⟨va_Zq.kept h.1 hq, vx_L.kept h.2 hq⟩
theorem vx_Zq.narrow {C n d : String} {A B : Nat → Prop} {U : State} {H : Heap} (h : vx_Zq C n d A U H) (hAB : ∀ q, B q → A q) : vx_Zq C n d B U H := ⟨va_Zq.narrow h.1 hAB, vx_L.narrow h.2 hAB⟩
theorem vx_Zqof {args : Array Value} {s : State} {C n d : String} {A : Nat → Prop} (hl : (Cond.laysStatic C n d).before args s = true) (hini : (Cond.initialized C).before args s = true) (h : (Cond.isRef (.static C n d)).before args s = true) (hA : ∀ a : Nat, a < s.heap.size → ¬ A a) : vx_Zq C n d A s s.heap := by
  refine ⟨va_Zqof hl hini h hA, ?_⟩
  obtain ⟨c, k, i, f, a, cell, h1, h2, h3, h4, h5, h6, h7, h8, h9⟩ := Cond.laysStatic_spec hl
  exact ⟨c, k, i, f, a, cell, h1, h2, h3, h4, h5, h6, h7, h8, h9, hA a (Array.getElem?_eq_some_iff.mp h5).1⟩
theorem vx_isRef {C n d : String} {v : Value} {A : Nat → Prop} {s : State} {args : Array Value} (h : va_Z C n d v A s s.heap) (hv : v.isRef = true) : (Cond.isRef (.static C n d)).before args s = true := by
  obtain ⟨cf, kf, fi, f, a, cell, h1, h2, h3, h4, h5, h6, h7, -⟩ := h
  have he : (Term.static C n d).eval args s none [] s = some v := by
    simp [Term.eval, State.fieldNamed?, h1, h2, h4, h5, h6, h7]
  simp only [Cond.before, Cond.holds, Cond.value, he]
  cases v <;> simp_all [Value.isRef]
theorem vx_isRefq {C n d : String} {A : Nat → Prop} {s : State} {args : Array Value} (h : va_Zq C n d A s s.heap) : (Cond.isRef (.static C n d)).before args s = true := by
  rcases h with h | ⟨t, h⟩
  · exact vx_isRef h rfl
  · exact vx_isRef h rfl
/-- the same frame, seen from here: as if the method were called anew in this heap -/
theorem vx_rebase {T : State} (X : Stand p l e R s m args below meth c T locs cells slots) {R' : Room} (hf : R'.frames ≤ R.frames) (hl : R'.locals ≤ R.locals) (hc : cells + R'.cells ≤ R.cells) (hs : slots + R'.slots ≤ R.slots) :
    Stand p l e R' ((T.setVm s.vm).setFrames (.invoking m args :: below)) m args below meth c T [] 0 0 := by
  have htop : (T.setVm s.vm).topJava?.isSome := X.here.top
  have hF : ((T.setVm s.vm).setFrames (.invoking m args :: below)).frames = .invoking m args :: below := State.frames_setFrames _ (State.cur_lt_of_top htop)
  obtain ⟨g₀, hg0⟩ := Option.isSome_iff_exists.mp htop
  obtain ⟨r, hr⟩ := State.topJava?_eq_some.mp hg0
  have hl9 : e.platform.stackLimits (T.setVm s.vm).me = e.platform.stackLimits s.me := X.limits
  have hb9 : (T.setVm s.vm).me.stackBytes = s.me.stackBytes := X.bytes
  refine ⟨X.admits, X.cas, X.clock, hF, ?_, X.hears, X.method, X.code, X.here, X.tail, X.warmed, ?_, ?_, ?_⟩
  · have h := X.room
    have hU : ((T.setVm s.vm).setFrames (.invoking m args :: below)).localsInUse = s.localsInUse := by
      rw [State.localsInUse_invoking hF (meth := meth) (c := c) X.method X.code, State.localsInUse_invoking X.frames X.method X.code]
    simp only [State.hasRoom, Bool.and_eq_true, decide_eq_true_eq] at h ⊢
    obtain ⟨⟨⟨⟨h1, h2, h3, h4, h5, h6⟩, h7⟩, h8⟩, h9⟩ := h
    rw [X.frames, List.length_cons] at h2 h3
    have q1 := X.heapSize
    have q2 := X.used
    simp only [hF, hU, List.length_cons, State.stackLimits_setFrames, State.stackBytes_setFrames, hl9, hb9]
    refine ⟨⟨⟨⟨by omega, by omega, by omega, by omega, by omega, h6⟩, ?_⟩, ?_⟩, X.book⟩
    · show T.heap.size + R'.cells ≤ e.platform.maxCells
      omega
    · show T.slotsUsed + R'.slots ≤ e.platform.maxSlots
      omega
  · rw [State.stackLimits_setFrames]; rfl
  · rw [State.stackBytes_setFrames]; rfl
  · refine ⟨?_, Nat.le_refl _, Nat.le_refl _, ?_, ?_, fun a c9 h9 => ⟨c9, h9, rfl, rfl, fun _ _ => rfl⟩⟩
    · obtain ⟨t, ht, -⟩ := State.frames_cons hr
      show T.setVm s.vm = { ((T.setVm s.vm).setFrames (.invoking m args :: below)).setFrames (T.setVm s.vm).frames with heap := T.heap, slotsUsed := T.slotsUsed }
      rw [State.setFrames_setFrames, State.setFrames_self ht]
      rfl
    · show T.slotsUsed = T.slotsUsed + ((T.heap.toList.drop T.heap.size).map (·.slots.size)).sum
      rw [List.drop_eq_nil_of_le (Nat.le_of_eq Array.length_toList)]
      rfl
    · show ((T.heap.toList.drop T.heap.size).map (·.slots.size)).sum ≤ 0
      rw [List.drop_eq_nil_of_le (Nat.le_of_eq Array.length_toList)]
      exact Nat.le_refl _
/-- 'throw new E()': new; dup; invokespecial; athrow -/
theorem vx_throw0 {cc : ByteArray} {pc : Nat} (hexec : p.tables.exec = Jvm.exec) (hb : c.code = cc) (hl : l.stackTraces = false) {own cls : String} {names : List String} {ik ic mc ms : Nat} {A : Nat → Prop}
    (hown : s.vm.findClass own = some m.cls) (hcls : Bundle.fit cls = true) (hnames : ∀ n ∈ names, Bundle.fit n = true)
    (hk : (Cond.classLink own ik cls).before args s = true) (hini : (Cond.initialized cls).before args s = true) (hat : ∀ w ∈ vx_at0 own ic cls names, w.before args s = true)
    (hgood : ∀ w ∈ Cond.classLink own ik cls :: Cond.initialized cls :: vx_at0 own ic cls names, vx_ot w = true)
    (hU : vx_Zq Bundle.tN "UNASSIGNED_STACK" Bundle.steD A s s.heap) (hN : vx_Zq Bundle.tN "SUPPRESSED_SENTINEL" Bundle.listD A s s.heap) (hS : va_S A s.heap H locs) (hsize : ls.size = c.maxLocals)
    (d0 : decode cc pc = .ok (.new ik, 3)) (d3 : decode cc (pc + 3) = .ok (.dup, 1)) (d4 : decode cc (pc + 4) = .ok (.invokespecial ic, 3)) (d7 : decode cc (pc + 7) = .ok (.athrow, 1))
    (hout : ∀ x ∈ c.exceptionTable.toList, covers x (pc + 7) = false)
    (hRframes : names.length + 3 < R.frames) (hRlocals : (rest.map fun v => v.category).sum + (13 * (names.length + 1) + 42) ≤ R.locals) (hRcells : cells + 1 ≤ R.cells) (hRslots : slots + 6 ≤ R.slots) (hlocks : meth.locks = false)
    (hx : ∀ t : State, s.vm.Alike t.vm → H.size ≤ t.heap.size → (∀ q : Nat, q < H.size → t.heap[q]? = H[q]?) → XC cls s t)
    (hf : ∀ z ∈ locs, free z.base) (hc : cells + 1 ≤ mc) (hs : slots + 6 ≤ ms) :
    W p l e R s m args below meth c H locs cells slots (vx_MQ below Qc XC args s mc ms free) (F0 m pc ls rest) := by
  intro T hT X
  have htr : e.platform.stackTraces = false := (show e.platform.stackTraces = l.stackTraces by rw [X.admits.platform]).trans hl
  have Y := vx_rebase X (R' := { frames := R.frames, locals := R.locals, cells := 1, slots := 6 }) (Nat.le_refl _) (Nat.le_refl _) hRcells hRslots
  obtain ⟨s', hA⟩ : ∃ z, z = (T.setVm s.vm).setFrames (.invoking m args :: below) := ⟨_, rfl⟩
  rw [← hA] at Y
  have hvm : s'.vm = s.vm := by rw [hA]; rfl
  have hhp : s'.heap = H := by rw [hA]; exact hT
  have hW0 : s.WarmedH s'.vm := by rw [hvm]; exact State.WarmedH.refl s
  have hat' : ∀ w ∈ vx_at0 own ic cls names, w.before args s' = true := fun w hw => vx_ot_at hW0 hvm.symm (hgood w (List.mem_cons_of_mem _ (List.mem_cons_of_mem _ hw))) (hat w hw)
  have hk' : (Cond.classLink own ik cls).before args s' = true := vx_ot_at hW0 hvm.symm (hgood _ List.mem_cons_self) hk
  have hini' : (Cond.initialized cls).before args s' = true := vx_ot_at hW0 hvm.symm (hgood _ (List.mem_cons_of_mem _ List.mem_cons_self)) hini
  have hU' : vx_Zq Bundle.tN "UNASSIGNED_STACK" Bundle.steD A s' s'.heap := by rw [hhp]; exact vx_Zq.moved hW0.alike (hU.kept hS.2.1)
  have hN' : vx_Zq Bundle.tN "SUPPRESSED_SENTINEL" Bundle.listD A s' s'.heap := by rw [hhp]; exact vx_Zq.moved hW0.alike (hN.kept hS.2.1)
  have h : ∀ w ∈ Bundle.ownAtoms0 own ic cls names, w.before args s' = true := vx_own hat' (vx_isRefq hU'.1) (vx_isRefq hN'.1) hU'.2.word hN'.2.word
  have hown' : s'.vm.findClass own = some m.cls := by rw [hvm]; exact hown
  have hins : (Cond.instantiable cls 6).before args s' = true := h _ (by simp [Bundle.ownAtoms0])
  obtain ⟨vm₁, cX, kX, hfX, hkX, -, -, X₁, st1⟩ := Y.newCold hexec (own := own) (C := cls) (index := ik) (n := 6) hown' hk' hins hini'
    (g := F0 m pc ls rest) rfl (by rw [hb]; exact d0) (Nat.le_refl _) (Nat.le_refl _)
  generalize hT1 : (T.setVm vm₁).pushCell { cls := cX, slots := kX.instanceTypes.map defaultValue, vm := .none } = T1 at X₁ st1
  have hcat : (Value.ref T.heap.size).category = 1 := rfl
  have hcellA : T1.heap[T.heap.size]? = some (freshCell cX kX) := by rw [← hT1]; exact State.heap_pushCell_size _ _
  have d3' : decode c.code (pc + 3) = .ok (.dup, 1) := by rw [hb]; exact d3
  obtain ⟨U, hsteps, hrun, hend, hW, hsame, ce, hce, hO⟩ := X₁.ctorThrow0 hexec htr (own := own) (cls := cls) (names := names) (ic := ic) hown' hcls hnames h (fun x hx => nomatch hx) hfX hkX hcellA (by rw [hhp, hT]; exact Nat.le_refl _)
    (g := { method := m, pc := pc + 4, locals := ls, stack := .ref T.heap.size :: .ref T.heap.size :: rest, locked := none }) rfl hsize rfl rfl (rest := rest) rfl
    (by rw [hb]; exact d4) (by rw [hb]; exact d7) hout hRframes (by simp only [List.map_cons, List.sum_cons, hcat]; omega) hlocks
  obtain ⟨f1, f2⟩ := vx_frame hsame
  rw [hhp] at f1 f2
  have hWs : s.WarmedH U.vm := State.WarmedH.trans hW0 hW
  have hcl : s.vm.findClass cls = some ce.cls := by
    have h9 := hO.cls
    rw [hvm] at h9
    exact h9
  have hall : s.sameButNew ({ U with vm := s.vm } : State) locs mc ms := by
    subst hA
    obtain ⟨e1, e2⟩ := hsame
    rw [State.setFrames_setFrames] at e1
    have h2 : (T.setVm s.vm).sameButNew ({ U with vm := s.vm } : State) [] (0 + 1) (0 + 6) := ⟨e1, e2⟩
    have h3 := X.same.trans h2
    rw [List.append_nil] at h3
    exact h3.mono hc hs
  refine ⟨U, ?_, .threw T.heap.size, hrun, hend, Or.inr ⟨T.heap.size, rfl, cls, ce, locs, hx U hWs.alike f1 (fun q hq => f2 q hq (fun z hz => nomatch hz)), hce, hO.vm, hcl, hWs, hall, hf⟩⟩
  refine st1 _ ?_
  show Steps p.tables e below (T1.setTop { method := m, pc := pc + 3, locals := ls, stack := .ref T.heap.size :: rest, locked := none }) _
  jvm_step X₁.here [X₁.here.top, hexec, d3', Value.category]
  exact hsteps
/-- 'throw new E("text")': new; dup; ldc; invokespecial; athrow -/
theorem vx_throwS {cc : ByteArray} {pc : Nat} (hexec : p.tables.exec = Jvm.exec) (hb : c.code = cc) (hl : l.stackTraces = false) {own cls text : String} {names : List String} {ik is ic mc ms sa : Nat} {A : Nat → Prop}
    (hown : s.vm.findClass own = some m.cls) (hcls : Bundle.fit cls = true) (hnames : ∀ n ∈ names, Bundle.fit n = true)
    (hk : (Cond.classLink own ik cls).before args s = true) (hini : (Cond.initialized cls).before args s = true) (hstr : vk_R own is text sa s) (hat : ∀ w ∈ vx_atS own ic cls names, w.before args s = true)
    (hgood : ∀ w ∈ Cond.classLink own ik cls :: Cond.initialized cls :: vx_atS own ic cls names, vx_ot w = true)
    (hU : vx_Zq Bundle.tN "UNASSIGNED_STACK" Bundle.steD A s s.heap) (hN : vx_Zq Bundle.tN "SUPPRESSED_SENTINEL" Bundle.listD A s s.heap) (hS : va_S A s.heap H locs) (hsize : ls.size = c.maxLocals)
    (d0 : decode cc pc = .ok (.new ik, 3)) (d3 : decode cc (pc + 3) = .ok (.dup, 1)) (d4 : decode cc (pc + 4) = .ok (.ldc is, 2)) (d6 : decode cc (pc + 6) = .ok (.invokespecial ic, 3)) (d9 : decode cc (pc + 9) = .ok (.athrow, 1))
    (hout : ∀ x ∈ c.exceptionTable.toList, covers x (pc + 9) = false)
    (hRframes : names.length + 3 < R.frames) (hRlocals : (rest.map fun v => v.category).sum + (13 * (names.length + 1) + 43) ≤ R.locals) (hRcells : cells + 1 ≤ R.cells) (hRslots : slots + 6 ≤ R.slots) (hlocks : meth.locks = false)
    (hx : ∀ t : State, s.vm.Alike t.vm → H.size ≤ t.heap.size → (∀ q : Nat, q < H.size → t.heap[q]? = H[q]?) → XC cls s t)
    (hf : ∀ z ∈ locs, free z.base) (hc : cells + 1 ≤ mc) (hs : slots + 6 ≤ ms) :
    W p l e R s m args below meth c H locs cells slots (vx_MQ below Qc XC args s mc ms free) (F0 m pc ls rest) := by
  intro T hT X
  have htr : e.platform.stackTraces = false := (show e.platform.stackTraces = l.stackTraces by rw [X.admits.platform]).trans hl
  have Y := vx_rebase X (R' := { frames := R.frames, locals := R.locals, cells := 1, slots := 6 }) (Nat.le_refl _) (Nat.le_refl _) hRcells hRslots
  obtain ⟨s', hA⟩ : ∃ z, z = (T.setVm s.vm).setFrames (.invoking m args :: below) := ⟨_, rfl⟩
  rw [← hA] at Y
  have hvm : s'.vm = s.vm := by rw [hA]; rfl
  have hhp : s'.heap = H := by rw [hA]; exact hT
  have hW0 : s.WarmedH s'.vm := by rw [hvm]; exact State.WarmedH.refl s
  have hat' : ∀ w ∈ vx_atS own ic cls names, w.before args s' = true := fun w hw => vx_ot_at hW0 hvm.symm (hgood w (List.mem_cons_of_mem _ (List.mem_cons_of_mem _ hw))) (hat w hw)
  have hk' : (Cond.classLink own ik cls).before args s' = true := vx_ot_at hW0 hvm.symm (hgood _ List.mem_cons_self) hk
  have hini' : (Cond.initialized cls).before args s' = true := vx_ot_at hW0 hvm.symm (hgood _ (List.mem_cons_of_mem _ List.mem_cons_self)) hini
  have hU' : vx_Zq Bundle.tN "UNASSIGNED_STACK" Bundle.steD A s' s'.heap := by rw [hhp]; exact vx_Zq.moved hW0.alike (hU.kept hS.2.1)
  have hN' : vx_Zq Bundle.tN "SUPPRESSED_SENTINEL" Bundle.listD A s' s'.heap := by rw [hhp]; exact vx_Zq.moved hW0.alike (hN.kept hS.2.1)
  have h : ∀ w ∈ Bundle.ownAtoms own ic cls names, w.before args s' = true := vx_own hat' (vx_isRefq hU'.1) (vx_isRefq hN'.1) hU'.2.word hN'.2.word
  have hown' : s'.vm.findClass own = some m.cls := by rw [hvm]; exact hown
  have hins : (Cond.instantiable cls 6).before args s' = true := h _ (by simp [Bundle.ownAtoms])
  obtain ⟨vm₁, cX, kX, hfX, hkX, -, -, X₁, st1⟩ := Y.newCold hexec (own := own) (C := cls) (index := ik) (n := 6) hown' hk' hins hini'
    (g := F0 m pc ls rest) rfl (by rw [hb]; exact d0) (Nat.le_refl _) (Nat.le_refl _)
  generalize hT1 : (T.setVm vm₁).pushCell { cls := cX, slots := kX.instanceTypes.map defaultValue, vm := .none } = T1 at X₁ st1
  have hcat : (Value.ref T.heap.size).category = 1 := rfl
  have hcellA : T1.heap[T.heap.size]? = some (freshCell cX kX) := by rw [← hT1]; exact State.heap_pushCell_size _ _
  have d3' : decode c.code (pc + 3) = .ok (.dup, 1) := by rw [hb]; exact d3
  have d4' : decode c.code (pc + 4) = .ok (.ldc is, 2) := by rw [hb]; exact d4
  have hstr' : vk_R own is text sa s' := vk_R.warm hW0 hstr
  obtain ⟨U, hsteps, hrun, hend, hW, hsame, ce, hce, hO⟩ := X₁.ctorThrowS hexec htr (own := own) (cls := cls) (names := names) (ic := ic) hown' hcls hnames h (fun x hx => nomatch hx) hfX hkX hcellA (by rw [hhp, hT]; exact Nat.le_refl _) (msg := .ref sa) rfl
    (g := { method := m, pc := pc + 6, locals := ls, stack := .ref sa :: .ref T.heap.size :: .ref T.heap.size :: rest, locked := none }) rfl hsize rfl rfl (rest := rest) rfl
    (by rw [hb]; exact d6) (by rw [hb]; exact d9) hout hRframes (by simp only [List.map_cons, List.sum_cons, hcat]; omega) hlocks
  obtain ⟨f1, f2⟩ := vx_frame hsame
  rw [hhp] at f1 f2
  have hWs : s.WarmedH U.vm := State.WarmedH.trans hW0 hW
  have hcl : s.vm.findClass cls = some ce.cls := by
    have h9 := hO.cls
    rw [hvm] at h9
    exact h9
  have hall : s.sameButNew ({ U with vm := s.vm } : State) locs mc ms := by
    subst hA
    obtain ⟨e1, e2⟩ := hsame
    rw [State.setFrames_setFrames] at e1
    have h2 : (T.setVm s.vm).sameButNew ({ U with vm := s.vm } : State) [] (0 + 1) (0 + 6) := ⟨e1, e2⟩
    have h3 := X.same.trans h2
    rw [List.append_nil] at h3
    exact h3.mono hc hs
  refine ⟨U, ?_, .threw T.heap.size, hrun, hend, Or.inr ⟨T.heap.size, rfl, cls, ce, locs, hx U hWs.alike f1 (fun q hq => f2 q hq (fun z hz => nomatch hz)), hce, hO.vm, hcl, hWs, hall, hf⟩⟩
  refine st1 _ ?_
  show Steps p.tables e below (T1.setTop { method := m, pc := pc + 3, locals := ls, stack := .ref T.heap.size :: rest, locked := none }) _
  jvm_step X₁.here [X₁.here.top, hexec, d3', Value.category]
  exact X₁.ldcString hexec (own := own) (text := text) (index := is) (a := sa) hown' hstr'.1 hstr'.2
    (g := { method := m, pc := pc + 4, locals := ls, stack := .ref T.heap.size :: .ref T.heap.size :: rest, locked := none }) rfl d4' _ hsteps
/-- 'throw new E("text")', the text by a wide index -/
theorem vx_throwSW {cc : ByteArray} {pc : Nat} (hexec : p.tables.exec = Jvm.exec) (hb : c.code = cc) (hl : l.stackTraces = false) {own cls text : String} {names : List String} {ik is ic mc ms sa : Nat} {A : Nat → Prop}
    (hown : s.vm.findClass own = some m.cls) (hcls : Bundle.fit cls = true) (hnames : ∀ n ∈ names, Bundle.fit n = true)
    (hk : (Cond.classLink own ik cls).before args s = true) (hini : (Cond.initialized cls).before args s = true) (hstr : vk_R own is text sa s) (hat : ∀ w ∈ vx_atS own ic cls names, w.before args s = true)
    (hgood : ∀ w ∈ Cond.classLink own ik cls :: Cond.initialized cls :: vx_atS own ic cls names, vx_ot w = true)
    (hU : vx_Zq Bundle.tN "UNASSIGNED_STACK" Bundle.steD A s s.heap) (hN : vx_Zq Bundle.tN "SUPPRESSED_SENTINEL" Bundle.listD A s s.heap) (hS : va_S A s.heap H locs) (hsize : ls.size = c.maxLocals)
    (d0 : decode cc pc = .ok (.new ik, 3)) (d3 : decode cc (pc + 3) = .ok (.dup, 1)) (d4 : decode cc (pc + 4) = .ok (.ldc_w is, 3)) (d7 : decode cc (pc + 7) = .ok (.invokespecial ic, 3)) (d10 : decode cc (pc + 10) = .ok (.athrow, 1))
    (hout : ∀ x ∈ c.exceptionTable.toList, covers x (pc + 10) = false)
    (hRframes : names.length + 3 < R.frames) (hRlocals : (rest.map fun v => v.category).sum + (13 * (names.length + 1) + 43) ≤ R.locals) (hRcells : cells + 1 ≤ R.cells) (hRslots : slots + 6 ≤ R.slots) (hlocks : meth.locks = false)
    (hx : ∀ t : State, s.vm.Alike t.vm → H.size ≤ t.heap.size → (∀ q : Nat, q < H.size → t.heap[q]? = H[q]?) → XC cls s t)
    (hf : ∀ z ∈ locs, free z.base) (hc : cells + 1 ≤ mc) (hs : slots + 6 ≤ ms) :
    W p l e R s m args below meth c H locs cells slots (vx_MQ below Qc XC args s mc ms free) (F0 m pc ls rest) := by
  intro T hT X
  have htr : e.platform.stackTraces = false := (show e.platform.stackTraces = l.stackTraces by rw [X.admits.platform]).trans hl
  have Y := vx_rebase X (R' := { frames := R.frames, locals := R.locals, cells := 1, slots := 6 }) (Nat.le_refl _) (Nat.le_refl _) hRcells hRslots
  obtain ⟨s', hA⟩ : ∃ z, z = (T.setVm s.vm).setFrames (.invoking m args :: below) := ⟨_, rfl⟩
  rw [← hA] at Y
  have hvm : s'.vm = s.vm := by rw [hA]; rfl
  have hhp : s'.heap = H := by rw [hA]; exact hT
  have hW0 : s.WarmedH s'.vm := by rw [hvm]; exact State.WarmedH.refl s
  have hat' : ∀ w ∈ vx_atS own ic cls names, w.before args s' = true := fun w hw => vx_ot_at hW0 hvm.symm (hgood w (List.mem_cons_of_mem _ (List.mem_cons_of_mem _ hw))) (hat w hw)
  have hk' : (Cond.classLink own ik cls).before args s' = true := vx_ot_at hW0 hvm.symm (hgood _ List.mem_cons_self) hk
  have hini' : (Cond.initialized cls).before args s' = true := vx_ot_at hW0 hvm.symm (hgood _ (List.mem_cons_of_mem _ List.mem_cons_self)) hini
  have hU' : vx_Zq Bundle.tN "UNASSIGNED_STACK" Bundle.steD A s' s'.heap := by rw [hhp]; exact vx_Zq.moved hW0.alike (hU.kept hS.2.1)
  have hN' : vx_Zq Bundle.tN "SUPPRESSED_SENTINEL" Bundle.listD A s' s'.heap := by rw [hhp]; exact vx_Zq.moved hW0.alike (hN.kept hS.2.1)
  have h : ∀ w ∈ Bundle.ownAtoms own ic cls names, w.before args s' = true := vx_own hat' (vx_isRefq hU'.1) (vx_isRefq hN'.1) hU'.2.word hN'.2.word
  have hown' : s'.vm.findClass own = some m.cls := by rw [hvm]; exact hown
  have hins : (Cond.instantiable cls 6).before args s' = true := h _ (by simp [Bundle.ownAtoms])
  obtain ⟨vm₁, cX, kX, hfX, hkX, -, -, X₁, st1⟩ := Y.newCold hexec (own := own) (C := cls) (index := ik) (n := 6) hown' hk' hins hini'
    (g := F0 m pc ls rest) rfl (by rw [hb]; exact d0) (Nat.le_refl _) (Nat.le_refl _)
  generalize hT1 : (T.setVm vm₁).pushCell { cls := cX, slots := kX.instanceTypes.map defaultValue, vm := .none } = T1 at X₁ st1
  have hcat : (Value.ref T.heap.size).category = 1 := rfl
  have hcellA : T1.heap[T.heap.size]? = some (freshCell cX kX) := by rw [← hT1]; exact State.heap_pushCell_size _ _
  have d3' : decode c.code (pc + 3) = .ok (.dup, 1) := by rw [hb]; exact d3
  have d4' : decode c.code (pc + 4) = .ok (.ldc_w is, 3) := by rw [hb]; exact d4
  have hstr' : vk_R own is text sa s' := vk_R.warm hW0 hstr
  obtain ⟨U, hsteps, hrun, hend, hW, hsame, ce, hce, hO⟩ := X₁.ctorThrowS hexec htr (own := own) (cls := cls) (names := names) (ic := ic) hown' hcls hnames h (fun x hx => nomatch hx) hfX hkX hcellA (by rw [hhp, hT]; exact Nat.le_refl _) (msg := .ref sa) rfl
    (g := { method := m, pc := pc + 7, locals := ls, stack := .ref sa :: .ref T.heap.size :: .ref T.heap.size :: rest, locked := none }) rfl hsize rfl rfl (rest := rest) rfl
    (by rw [hb]; exact d7) (by rw [hb]; exact d10) hout hRframes (by simp only [List.map_cons, List.sum_cons, hcat]; omega) hlocks
  obtain ⟨f1, f2⟩ := vx_frame hsame
  rw [hhp] at f1 f2
  have hWs : s.WarmedH U.vm := State.WarmedH.trans hW0 hW
  have hcl : s.vm.findClass cls = some ce.cls := by
    have h9 := hO.cls
    rw [hvm] at h9
    exact h9
  have hall : s.sameButNew ({ U with vm := s.vm } : State) locs mc ms := by
    subst hA
    obtain ⟨e1, e2⟩ := hsame
    rw [State.setFrames_setFrames] at e1
    have h2 : (T.setVm s.vm).sameButNew ({ U with vm := s.vm } : State) [] (0 + 1) (0 + 6) := ⟨e1, e2⟩
    have h3 := X.same.trans h2
    rw [List.append_nil] at h3
    exact h3.mono hc hs
  refine ⟨U, ?_, .threw T.heap.size, hrun, hend, Or.inr ⟨T.heap.size, rfl, cls, ce, locs, hx U hWs.alike f1 (fun q hq => f2 q hq (fun z hz => nomatch hz)), hce, hO.vm, hcl, hWs, hall, hf⟩⟩
  refine st1 _ ?_
  show Steps p.tables e below (T1.setTop { method := m, pc := pc + 3, locals := ls, stack := .ref T.heap.size :: rest, locked := none }) _
  jvm_step X₁.here [X₁.here.top, hexec, d3', Value.category]
  exact X₁.ldcStringW hexec (own := own) (text := text) (index := is) (a := sa) hown' hstr'.1 hstr'.2
    (g := { method := m, pc := pc + 4, locals := ls, stack := .ref T.heap.size :: .ref T.heap.size :: rest, locked := none }) rfl d4' _ hsteps
end Ends
section Bodies
variable {l : Launch}
theorem vx_ofW {y : MethodName} {ws ws' : List Cond} {rm : Room} {Pc : Array Value → State → Prop} {Qc : Array Value → State → Outcome → State → Prop} {XC : String → State → State → Prop} {mc ms : Nat} {free : Addr → Prop} {cc : ByteArray} {maxL : Nat} {ret : Option FieldType}
    (hy : plainName y.cls = true) (hw : ws = Cond.code y cc maxL ret :: ws')
    (body : ∀ p e s m args below meth c s₁, BodyLoose p l y (headSpec ws rm) cc maxL ret e s m args below meth c s₁ → c.maxLocals = maxL → (∀ x ∈ c.exceptionTable.toList, False) → Pc args s →
      W p l e (headSpec ws rm).room s m args below meth c s.heap [] 0 0 (vx_MQ below Qc XC args s mc ms free) (entryFrame m args maxL)) : vx_Met l y ws rm Pc Qc XC mc ms free := by
  refine MetFree.of_bodyS (code := cc) (maxLocals := maxL) (ret := ret) hy ?_ ?_
  · intro args s m h hn
    obtain ⟨meth, c, h1, h2, h3, h4, h5, h6, -, -⟩ := Cond.code_spec hn (atoms_spec (ws := ws) h _ (by rw [hw]; exact List.mem_cons_self))
    exact ⟨meth, c, h1, h2, h3, h4, h5, h6⟩
  · intro p e s m args below meth c s₁ B hml hP _
    have hh0 : s₁.heap = s.heap := by rw [B.state]; rfl
    have ht : ∀ x ∈ c.exceptionTable.toList, False := by
      obtain ⟨meth9, c9, h1, h2, -, -, -, -, h7, -⟩ := Cond.code_spec B.named (atoms_spec (ws := ws) B.pre _ (by rw [hw]; exact List.mem_cons_self))
      cases Option.some.inj (h1.symm.trans B.method)
      cases Option.some.inj (h2.symm.trans (Stand.of_body B).code)
      intro x hx
      rw [Array.isEmpty_iff.mp h7] at hx
      cases hx
    obtain ⟨t, a1, o, b1, b2, b3⟩ := body p e s m args below meth c s₁ B hml ht hP s₁ hh0 (Stand.of_body B)
    exact ⟨t, o, a1, b1, b2, b3⟩
/-- the table of a body with handlers -/
theorem vx_table {p : Program} {x y : MethodName} {S : Spec} {cc bytes : ByteArray} {maxL maxL' : Nat} {ret ret' : Option FieldType} {e : Env} {s s₁ : State} {m : MethodId} {args : Array Value} {below : List Frame} {meth : Method} {c : Code} {hh : List (Nat × Nat × Nat × Nat)}
    (B : BodyLoose p l y S cc maxL ret e s m args below meth c s₁) (h : (Cond.codeWith y bytes maxL' ret' hh).before args s = true) : c.exceptionTable.toList = tableOf hh := by
  obtain ⟨m9, meth9, c9, hn9, h1, h2, -, -, h6, -⟩ := Cond.codeWith_spec h
  cases Option.some.inj (hn9.symm.trans B.named)
  cases Option.some.inj (h1.symm.trans B.method)
  cases Option.some.inj (h2.symm.trans (Stand.of_body B).code)
  rw [← h6, table_eq]
end Bodies
end VXA
/-! ===== END ===== -/
/-! ===== BEGIN a static call of a method with an exception table ===== -/
section VXS
variable {p : Program} {l : Launch} {e : Env} {R : Room} {s : State} {m : MethodId} {args : Array Value} {below : List Frame} {meth : Method} {c : Code} {T : State} {H : Heap} {locs : List Loc} {cells slots : Nat}
abbrev vx_CSW (R : Room) (s : State) (args : Array Value) (own : String) (index : Nat) (y : MethodName) (bytes : ByteArray) (maxL : Nat) (ret : Option FieldType) (hh : List (Nat × Nat × Nat × Nat)) (ws : List Cond) (rm : Room) (mc ms n : Nat) : Prop :=
  (rm.cells = mc ∧ rm.slots = ms ∧ rm.frames + 1 ≤ R.frames ∧ 8 + (maxL + 11) + rm.locals ≤ R.locals ∧ (∀ w ∈ ws, ∀ (a' : Array Value) (U : State), s.WarmedH U.vm → w.before a' U = true) ∧ Cond.codeWith y bytes maxL ret hh ∈ ws) ∧
  (Cond.codeWith y bytes maxL ret hh).before args s = true ∧ (Cond.initialized y.cls).before args s = true ∧ (y.cls ≠ "java/lang/invoke/MethodHandle" ∧ y.cls ≠ "java/lang/invoke/VarHandle") ∧
  (∀ sig, parseMethodDescriptor y.desc = some sig → n = sig.parameters.length) ∧ (Cond.methodLink own index y).before args s = true ∧ (Cond.static y).before args s = true
theorem vx_cwSW {own : String} {index maxL mc ms : Nat} {y : MethodName} {bytes : ByteArray} {ret : Option FieldType} {hh : List (Nat × Nat × Nat × Nat)} {Ts ws ws' : List Cond} {rm : Room} (n : Nat) (ht : ∀ w ∈ Ts, w.before args s = true) (hT : GoodIn Ts (va_wsS own index y ws)) (hw : ws = Cond.codeWith y bytes maxL ret hh :: ws') (hrc : rm.cells = mc) (hrs : rm.slots = ms)
    (hd : y.cls ≠ "java/lang/invoke/MethodHandle" ∧ y.cls ≠ "java/lang/invoke/VarHandle" ∧ (parseMethodDescriptor y.desc).map (fun d => d.parameters.length) = some n) (hR : rm.frames + 1 ≤ R.frames ∧ 8 + (maxL + 11) + rm.locals ≤ R.locals) :
    vx_CSW R s args own index y bytes maxL ret hh ws rm mc ms n := by
  have ok : ∀ w ∈ va_wsS own index y ws, w.before args s = true := fun w h => ht w (hT w h).1
  have hG : GoodIn Ts ws := fun w h => hT w (by unfold va_wsS; exact List.mem_append_right _ h)
  have hc : Cond.codeWith y bytes maxL ret hh ∈ ws := by rw [hw]; exact List.mem_cons_self
  refine ⟨⟨hrc, hrs, hR.1, hR.2, pay_in ht hG, hc⟩, ht _ (hG _ hc).1, ok _ (by simp [va_wsS]), ⟨hd.1, hd.2.1⟩, fun sig h => ?_, ok _ (by simp [va_wsS]), ok _ (by simp [va_wsS])⟩
  have h2 := hd.2.2
  rw [h] at h2
  exact (Option.some.inj h2).symm
theorem vx_callSW (X : Stand p l e R s m args below meth c T locs cells slots) (hexec : p.tables.exec = Jvm.exec) {own : String} {index : Nat} {y : MethodName} {bytes : ByteArray} {maxL : Nat} {ret : Option FieldType} {hh : List (Nat × Nat × Nat × Nat)}
    (hown : s.vm.findClass own = some m.cls) (hlink : (Cond.methodLink own index y).before args s = true) (hstat : (Cond.static y).before args s = true) (hinit : (Cond.initialized y.cls).before args s = true)
    (hcode : (Cond.codeWith y bytes maxL ret hh).before args s = true) (hy : y.cls ≠ "java/lang/invoke/MethodHandle" ∧ y.cls ≠ "java/lang/invoke/VarHandle")
    {W9 : Nat} {Pre : Pt → Array Value → Prop} {Post : Pt → Array Value → Option Value → Pt → Prop} (hK : Back l R p e below s args y 3 W9 Pre Post)
    {g : JFrame} (hg : g.method = m) (hsize : g.locals.size = c.maxLocals) {argsL rest : List Value} (hlen : ∀ sig, parseMethodDescriptor y.desc = some sig → argsL.length = sig.parameters.length)
    (hstack : g.stack = argsL.reverse ++ rest) (hW : 2 * g.monitorRoom + (rest.map fun v => v.category).sum ≤ W9) (hdg : decode c.code g.pc = .ok (.invokestatic index, 3))
    (hpre : ∀ vm₁, s.WarmedH vm₁ → Pre ⟨T.setVm vm₁, locs, cells, slots⟩ argsL.toArray) :
    ∃ (v : Option Value) (vm₁ : Vm) (B : Pt), s.WarmedH vm₁ ∧ Stand p l e R s m args below meth c B.U B.locs B.cells B.slots ∧ Post ⟨T.setVm vm₁, locs, cells, slots⟩ argsL.toArray v B ∧
      ∀ target, Steps p.tables e below (B.U.setTop { g with pc := g.pc + 3, stack := v.toList ++ rest }) target → Steps p.tables e below (T.setTop g) target := by
  obtain ⟨mk, methM, cM, hnamed, hmethM, -, -, -, -, -, -, hsigM⟩ := Cond.codeWith_spec hcode
  have hstatic : methM.isStatic = true := Cond.static_spec hnamed hmethM hstat
  obtain ⟨kP, hkP, -⟩ := className_of_methodNamed hnamed
  have hinitP : kP.init = .initialized := Cond.initialized_spec (findClass_of_methodNamed hnamed) hkP hinit
  obtain ⟨vm₁, X₁, hstep₁⟩ := X.invokestatic hexec hown hlink hnamed hmethM hstatic hkP hinitP hy (g := g) hg (argsL := argsL) (rest := rest) (hlen _ hsigM) hstack hdg
  obtain ⟨v, B, X', hpost, hsteps⟩ := hK m meth c ⟨T.setVm vm₁, locs, cells, slots⟩ { g with stack := rest } (.invokestatic index) mk argsL.toArray X₁ hg hsize hdg hW (X₁.named hnamed) (hpre vm₁ X₁.warmed)
  exact ⟨v, vm₁, B, X₁.warmed, X', hpost, fun target h => hstep₁ _ fun acts => by rw [doInvoke_state]; exact hsteps.trans h⟩
theorem vx_runSW {y : MethodName} {bytes cc : ByteArray} {maxL nL mc ms n index : Nat} {ret : Option FieldType} {hh : List (Nat × Nat × Nat × Nat)} {ws : List Cond} {rm : Room} {Pc : Array Value → State → Prop} {Qc : Array Value → State → Outcome → State → Prop} {free : Addr → Prop} {Ts : List Cond} {own : String} {As rest : List Value} {g : JFrame}
    (S : CallFix p m c cc nL s args Ts own) (hM : Met l y ws rm Pc Qc mc ms free) (cw : vx_CSW R s args own index y bytes maxL ret hh ws rm mc ms n) (hp : PreS s H Pc As)
    (hg : g.method = m) (hn : As.length = n) (hsize : g.locals.size = nL) (hstack : g.stack = As.reverse ++ rest) (hW : 2 * g.monitorRoom + (rest.map fun v => v.category).sum ≤ 8) (hdg : decode cc g.pc = .ok (.invokestatic index, 3)) (hf : cells + mc ≤ R.cells ∧ slots + ms ≤ R.slots) :
    va_Run p l e R s m args below meth c H locs cells slots mc ms g rest (Qc As.toArray) (free) := by
  obtain ⟨⟨hrc, hrs, hfr, hlo, hws, hcw⟩, hcode, hini, hy, hlen, hl, hstt⟩ := cw
  have hK : Back l R p e below s args y 3 8 (PreOf R mc ms Pc) (PostOf Qc mc ms free) := va_backW (hh := hh) (bytes := bytes) (maxL := maxL) (ret := ret) hM hp.1 hrc hrs hfr hlo hws hcw (fun a' U hW => word_at hW (Or.inl (by first | rfl | simp [Cond.onTables, Cond.keeps, Cond.steady])) hini)
  obtain ⟨hx, hb, hml, ho, -⟩ := S
  intro T hT X
  obtain ⟨v, vm₁, ⟨U', l2, c2, s2⟩, hW₁, X', ⟨g', mk, t, L, e1, e2, hq, h1, hL, h2, h3⟩, st⟩ := vx_callSW X hx (hh := hh) (bytes := bytes) (maxL := maxL) (ret := ret) ho hl hstt hini hcode hy hK hg (hsize.trans hml.symm) (argsL := As) (rest := rest) (fun sig h => hn.trans (hlen sig h)) hstack hW (by rw [hb]; exact hdg)
    (fun vm₁ hW₁ => ⟨hf.1, hf.2, hp.2 (T.setVm vm₁) hT hW₁⟩)
  dsimp only [Pt.U, Pt.locs, Pt.cells, Pt.slots] at X' e1 e2 h1 h2 h3 st
  subst h1; subst h2; subst h3
  exact ⟨v, (T.setVm vm₁).calling g' mk As.toArray, t, U', L, hT, X', hL, e1, e2, hq, st⟩
/-- not caught here, past rows that name other classes: it goes on to the caller -/
theorem vx_outP {p : Program} {l : Launch} {e : Env} {R : Room} {s : State} {m : MethodId} {args : Array Value} {below : List Frame} {meth : Method} {c : Code} {H : Heap} {locs : List Loc} {cells slots : Nat} {free : Addr → Prop} {ls : Array Slot} {rest : List Value} {Qc : Array Value → State → Outcome → State → Prop} {XC : String → State → State → Prop}
    {pc : Nat} {own E : String} {ce : Cell} {q : Addr} {mc ms : Nat} (hown : s.vm.findClass own = some m.cls) (hlocks : meth.locks = false)
    (hpass : ∀ z ∈ c.exceptionTable.toList, covers z pc = false ∨ (z.catchType ≠ 0 ∧ ∃ nm : String, (Cond.classLink own z.catchType nm).before args s = true ∧ va_Nc E nm s)) (hcell : H[q]? = some ce) (hv : ce.vm = .none) (hcl : s.vm.findClass E = some ce.cls)
    (hx : ∀ t : State, t.heap = H → s.vm.Alike t.vm → XC E s t) (hf : ∀ z ∈ locs, free z.base) (hc : cells ≤ mc) (hs : slots ≤ ms) :
    vx_W p l e R s m args below meth c H locs cells slots (vx_MQ below Qc XC args s mc ms free) (F0 m pc ls rest) q := by
  intro T hT X
  have hpl : e.platform.magicAccessors = ({} : Platform).magicAccessors := by rw [X.admits.platform]
  obtain ⟨vm', hW', X', st⟩ := X.outThrough hlocks q (g := F0 m pc ls rest) rfl rfl rfl (cell := ce) (by rw [hT]; exact hcell) (by rw [hv]; rfl)
    (by obtain ⟨k9, h9, -⟩ := Vm.findClass_spec hcl; exact ⟨k9, h9⟩) (fun z hz => by
      rcases hpass z hz with h | ⟨hz0, nm, hl1, hn1⟩
      · exact Or.inl h
      · obtain ⟨c6, hc6, hcl6⟩ := Cond.classLink_spec hown hl1 e.platform hpl
        obtain ⟨a8, b8, h1, h2, h3⟩ := hn1
        cases Option.some.inj (h1.symm.trans hcl)
        cases Option.some.inj (h2.symm.trans hc6)
        exact Or.inr ⟨hz0, _, hcl6, h3⟩)
  obtain ⟨g₀, hfr⟩ := X'.frames_eq
  have hcell9 : ((T.setVm vm').setFrames (.throwing q :: below)).heap[q]? = some ce := by
    show T.heap[q]? = some ce
    rw [hT]; exact hcell
  have hend : Ended ((T.setVm vm').setFrames (.throwing q :: below)) below (.threw q) := State.frames_setFrames _ (State.cur_lt_of_frames hfr)
  refine ⟨(T.setVm vm').setFrames (.throwing q :: below), ?_, .threw q, X'.here.running, hend, Or.inr ⟨q, rfl, E, ce, locs, hx _ hT (X'.ends _).1.alike, hcell9, hv, hcl, (X'.ends _).1, (X'.ends _).2.mono hc hs, hf⟩⟩
  rw [X.pushThrowing_eq]
  exact st
/-- a thing of a world lies in the heap -/
theorem vx_lt {D : va_G} {cl : List vw_C} {ws : va_W} {H1 : Heap} (h : va_P D cl ws H1) {k : Nat} {q : Nat × va_E} (hk : ws[k]? = some q) : q.1 < H1.size := (h k q hk).lt
end VXS
/-! ===== END ===== -/
/-! ===== BEGIN methods with a table of their own: called by a name, returning or throwing ===== -/
section VXH
/-! vx_backW, vx_callVX, vx_callSX, vx_callVW, vx_runVW, vx_runVX, vx_runSX, vx_ofWH follow the same proofs as their sisters above (Free/Laws.lean, Shelf42/LK1.lean); vx_outP calls Shelf42/NT130.lean (outThrough). -/
section
variable {l : Launch} {R : Room} {p : Program} {e : Env} {below : List Frame} {s : State} {sargs : Array Value} {y : MethodName} {len W9 : Nat}
theorem vx_backW {ws : List Cond} {rm : Room} {Pc : Array Value → State → Prop} {Qc : Array Value → State → Outcome → State → Prop} {XC : String → State → State → Prop} {mc ms : Nat} {free : Addr → Prop} {bytes : ByteArray} {maxL : Nat} {ret : Option FieldType} {hh : List (Nat × Nat × Nat × Nat)}
    (hM : vx_Met l y ws rm Pc Qc XC mc ms free) (hblind : FrameBlind Pc) (hrc : rm.cells = mc) (hrs : rm.slots = ms)
    (hframes : rm.frames + 1 ≤ R.frames) (hlocals : W9 + (maxL + 11) + rm.locals ≤ R.locals)
    (hws : ∀ w ∈ ws, ∀ a' U, s.WarmedH U.vm → w.before a' U = true) (hcode : Cond.codeWith y bytes maxL ret hh ∈ ws) (hinit : ∀ a' U, s.WarmedH U.vm → (Cond.initialized y.cls).before a' U = true) :
    vx_Back l R p e below s sargs y len W9 (PreOf R mc ms Pc) (PostOf Qc mc ms free) (vx_Post XC mc ms free) := by
  intro m meth c A g ig mk a X hg hsize hdg hW hn hp
  have h1 : (headSpec ws rm).pre.before a A.U = true := atoms_intro fun w hw => hws w hw _ _ X.warmed
  have h2 : (Cond.codeWith y bytes maxL ret hh).before a A.U = true := hws _ hcode _ _ X.warmed
  have h3 : (Cond.initialized y.cls).before a A.U = true := hinit _ _ X.warmed
  have h4 : A.cells + (headSpec ws rm).room.cells ≤ R.cells := by rw [show (headSpec ws rm).room.cells = mc from hrc]; exact hp.1
  have h5 : A.slots + (headSpec ws rm).room.slots ≤ R.slots := by rw [show (headSpec ws rm).room.slots = ms from hrs]; exact hp.2.1
  have hPc : Pc a (A.U.calling g mk a) := hblind _ _ _ _ hp.2.2
  obtain ⟨U, Ls, c0, s0⟩ := A
  dsimp only [Pt.U, Pt.locs, Pt.cells, Pt.slots] at h1 h2 h3 h4 h5 X hn hPc ⊢
  obtain ⟨m9, methY, cY, hn9, hmY, hcY, -, hlY, -⟩ := Cond.codeWith_spec h2
  cases Option.some.inj (hn9.symm.trans hn)
  obtain ⟨kY, hkY, -⟩ := className_of_methodNamed hn
  have hinitY : kY.init = .initialized := Cond.initialized_spec (findClass_of_methodNamed hn) hkY h3
  have h : At U g.method c below := by rw [hg]; exact X.here
  have hlocals9 : W9 + (maxL + 11) + (headSpec ws rm).room.locals ≤ R.locals := hlocals
  have happ : (headSpec ws rm).appliesLoose y e.platform (U.calling g mk a) = true :=
    Spec.appliesLoose_calling (g := g) h hdg hn hkY hinitY
      (X.room_calling (g := g) (R' := (headSpec ws rm).room) hsize hmY hcY hframes (by rw [hlY]; omega) h4 h5) h1
  obtain ⟨mid, hmid⟩ := h.above
  have hfr : (U.setTop g).frames = (.java g :: mid) ++ below := by rw [State.frames_setTop' g h.top, hmid]; rfl
  obtain ⟨o, s₂, hsteps, -, hend, hq⟩ := Steps.callFree hM p X.admits X.cas X.clock (acts := []) hfr happ hPc trivial
  have hq' : vx_Q Qc XC mc ms free a (U.calling g mk a) o s₂ := hq
  rw [State.frames_setTop' g h.top] at hend
  obtain ⟨g₀, hg0⟩ := Option.isSome_iff_exists.mp h.top
  obtain ⟨r, hr⟩ := State.topJava?_eq_some.mp hg0
  have hr' : (({ U with heap := s₂.heap, slotsUsed := s₂.slotsUsed } : State).setVm s₂.vm).frames = .java g₀ :: r := hr
  rcases hq' with ⟨hqc, L, hfe, hL⟩ | ⟨q, rfl, E, ce, L, hx, hce, hcv, hcl, hW₂, hsm, hL⟩
  · obtain ⟨⟨v, rfl⟩, hW₂, e2, q2, q3, q4, q5, q6⟩ := id hfe
    have e3 : s₂ = ({ (U.calling g mk a).setFrames s₂.frames with heap := s₂.heap, slotsUsed := s₂.slotsUsed } : State).setVm s₂.vm := by
      have : s₂ = ({ s₂ with vm := (U.calling g mk a).vm } : State).setVm s₂.vm := rfl
      rw [e2] at this
      exact this
    obtain ⟨c₂, i₂, len₂, hc₂, hd₂, hf₂⟩ := hend
    have hW' : U.WarmedH s₂.vm := hW₂
    have hcc : c₂ = c := by
      have h1 : s₂.code? g.method = U.code? g.method := by
        rw [State.code?_eq, State.code?_eq, hW'.alike.method?]
      exact Option.some.inj (hc₂.symm.trans (h1.trans h.code))
    subst hcc
    have hlen : len₂ = len := by rw [hdg] at hd₂; cases hd₂; rfl
    subst hlen
    have hs₂ : s₂ = (({ U with heap := s₂.heap, slotsUsed := s₂.slotsUsed } : State).setVm s₂.vm).setTop { g with pc := g.pc + len₂, stack := v.toList ++ g.stack } := by
      refine e3.trans ?_
      rw [hf₂, State.calling_eq h.top, State.setFrames_setFrames, State.setTop_of_frames _ hr', hr]
      rfl
    have hsame : U.sameButNew ({ U with heap := s₂.heap, slotsUsed := s₂.slotsUsed } : State) L mc ms := by
      refine ⟨?_, q2, q3, q4, q5, q6⟩
      obtain ⟨t, ht, -⟩ := State.frames_cons hr
      show ({ U with heap := s₂.heap, slotsUsed := s₂.slotsUsed } : State) = { U.setFrames U.frames with heap := s₂.heap, slotsUsed := s₂.slotsUsed }
      rw [State.setFrames_self ht]
    subst hg
    refine Or.inl ⟨v, ⟨(({ U with heap := s₂.heap, slotsUsed := s₂.slotsUsed } : State).setVm s₂.vm), Ls ++ L, c0 + mc, s0 + ms⟩,
      ⟨X.admits, X.cas, X.clock, X.frames, X.room, X.hears, X.method, X.code, (X.here.setHeapUsed s₂.heap s₂.slotsUsed).setVm hW'.alike, X.tail, State.WarmedH.trans X.warmed hW', X.limits, X.bytes, X.same.trans (hsame.setVm s.vm)⟩,
      ⟨g, mk, s₂, L, rfl, rfl, hqc, rfl, hL, rfl, rfl⟩, ?_⟩
    show Steps p.tables e below _ ((({ U with heap := s₂.heap, slotsUsed := s₂.slotsUsed } : State).setVm s₂.vm).setTop { g with pc := g.pc + len₂, stack := v.toList ++ g.stack })
    rw [← hs₂]
    exact hsteps
  · obtain ⟨e2, q2, q3, q4, q5, q6⟩ := id hsm
    have e3 : s₂ = ({ (U.calling g mk a).setFrames s₂.frames with heap := s₂.heap, slotsUsed := s₂.slotsUsed } : State).setVm s₂.vm := by
      have : s₂ = ({ s₂ with vm := (U.calling g mk a).vm } : State).setVm s₂.vm := rfl
      rw [e2] at this
      exact this
    have hf₂ : s₂.frames = .throwing q :: .java g :: U.frames.tail := hend
    have hW' : U.WarmedH s₂.vm := hW₂
    have hs₂ : s₂ = ((({ U with heap := s₂.heap, slotsUsed := s₂.slotsUsed } : State).setVm s₂.vm).setTop g).pushFrame (.throwing q) := by
      refine e3.trans ?_
      rw [hf₂, State.calling_eq h.top, State.setFrames_setFrames, State.pushFrame, State.frames_setTop _ hr', State.setTop_of_frames _ hr', State.setFrames_setFrames, hr]
      rfl
    have hsame : U.sameButNew ({ U with heap := s₂.heap, slotsUsed := s₂.slotsUsed } : State) L mc ms := by
      refine ⟨?_, q2, q3, q4, q5, q6⟩
      obtain ⟨t, ht, -⟩ := State.frames_cons hr
      show ({ U with heap := s₂.heap, slotsUsed := s₂.slotsUsed } : State) = { U.setFrames U.frames with heap := s₂.heap, slotsUsed := s₂.slotsUsed }
      rw [State.setFrames_self ht]
    subst hg
    refine Or.inr ⟨q, ⟨(({ U with heap := s₂.heap, slotsUsed := s₂.slotsUsed } : State).setVm s₂.vm), Ls ++ L, c0 + mc, s0 + ms⟩,
      ⟨X.admits, X.cas, X.clock, X.frames, X.room, X.hears, X.method, X.code, (X.here.setHeapUsed s₂.heap s₂.slotsUsed).setVm hW'.alike, X.tail, State.WarmedH.trans X.warmed hW', X.limits, X.bytes, X.same.trans (hsame.setVm s.vm)⟩,
      ⟨g, mk, s₂, L, E, ce, rfl, rfl, hx, hce, hcv, hcl, rfl, hL, rfl, rfl⟩, ?_⟩
    show Steps p.tables e below _ (((({ U with heap := s₂.heap, slotsUsed := s₂.slotsUsed } : State).setVm s₂.vm).setTop g).pushFrame (.throwing q))
    rw [← hs₂]
    exact hsteps
end
variable {p : Program} {l : Launch} {e : Env} {R : Room} {s : State} {m : MethodId} {args : Array Value} {below : List Frame} {meth : Method} {c : Code} {T : State} {H : Heap} {locs : List Loc} {cells slots : Nat}
theorem vx_callVX (X : Stand p l e R s m args below meth c T locs cells slots) (hexec : p.tables.exec = Jvm.exec) {own C : String} {index : Nat} {y : MethodName} {bytes : ByteArray} {maxL : Nat} {ret : Option FieldType} {hh : List (Nat × Nat × Nat × Nat)}
    (hown : s.vm.findClass own = some m.cls) (hlink : (Cond.methodLink own index y).before args s = true) (hinst : (Cond.instanceMethod y).before args s = true) (hsel : (Cond.selects C y y).before args s = true)
    (hcode : (Cond.codeWith y bytes maxL ret hh).before args s = true) (hy : y.cls ≠ "java/lang/invoke/MethodHandle" ∧ y.cls ≠ "java/lang/invoke/VarHandle")
    {W9 : Nat} {Pre : Pt → Array Value → Prop} {Post : Pt → Array Value → Option Value → Pt → Prop} {PostX : Pt → Array Value → Addr → Pt → Prop} (hK : vx_Back l R p e below s args y 3 W9 Pre Post PostX)
    {b : Addr} {cellB : Cell} (hcell : T.heap[b]? = some cellB) (hobj : cellB.vm.isStatics = false) (hcls : s.vm.findClass C = some cellB.cls)
    {g : JFrame} (hg : g.method = m) (hsize : g.locals.size = c.maxLocals) {argsL rest : List Value} (hlen : ∀ sig, parseMethodDescriptor y.desc = some sig → argsL.length = sig.parameters.length)
    (hstack : g.stack = argsL.reverse ++ .ref b :: rest) (hW : 2 * g.monitorRoom + (rest.map fun v => v.category).sum ≤ W9) (hdg : decode c.code g.pc = .ok (.invokevirtual index, 3))
    (hpre : ∀ vm₁, s.WarmedH vm₁ → Pre ⟨T.setVm vm₁, locs, cells, slots⟩ (Value.ref b :: argsL).toArray) :
    (∃ (v : Option Value) (vm₁ : Vm) (B : Pt), s.WarmedH vm₁ ∧ Stand p l e R s m args below meth c B.U B.locs B.cells B.slots ∧ Post ⟨T.setVm vm₁, locs, cells, slots⟩ (Value.ref b :: argsL).toArray v B ∧
      ∀ target, Steps p.tables e below (B.U.setTop { g with pc := g.pc + 3, stack := v.toList ++ rest }) target → Steps p.tables e below (T.setTop g) target) ∨
    (∃ (q : Addr) (vm₁ : Vm) (B : Pt), s.WarmedH vm₁ ∧ Stand p l e R s m args below meth c B.U B.locs B.cells B.slots ∧ PostX ⟨T.setVm vm₁, locs, cells, slots⟩ (Value.ref b :: argsL).toArray q B ∧
      Steps p.tables e below (T.setTop g) ((B.U.setTop { g with stack := rest }).pushFrame (.throwing q))) := by
  obtain ⟨mk, methM, hnamed, hmethM, hstM, habM⟩ := Cond.instanceMethod_spec hinst
  obtain ⟨m8, methM', cM, hn8, hmethM', -, -, -, -, -, -, hsigM⟩ := Cond.codeWith_spec hcode
  cases Option.some.inj (hn8.symm.trans hnamed)
  cases hmethM.symm.trans hmethM'
  obtain ⟨c2, r2, m2, q1, q2, q3, q4, kP, hkP, hkPi⟩ := Cond.selects_spec hsel
  cases hcls.symm.trans q1
  cases (State.methodFound?_of_named hnamed hy).symm.trans q2
  cases hnamed.symm.trans q3
  have hselP : selectMethod e.platform s.vm cellB.cls mk = .method mk := by rw [Launch.admits_selectMethod X.admits]; exact q4
  obtain ⟨vm₁, X₁, hstep₁⟩ := X.invokevirtual hexec hown hlink hnamed hmethM hstM hkP hkPi hy (a := b) (cell := cellB) hcell
    (fun z h => by rw [h] at hobj; cases hobj) hselP hmethM habM hkP hkPi (g := g) hg (argsL := argsL) (rest := rest) (hlen _ hsigM) hstack hdg
  rcases hK m meth c ⟨T.setVm vm₁, locs, cells, slots⟩ { g with stack := rest } (.invokevirtual index) mk (Value.ref b :: argsL).toArray X₁ hg hsize hdg hW (X₁.named hnamed) (hpre vm₁ X₁.warmed) with ⟨v, B, X', hpost, hsteps⟩ | ⟨q, B, X', hpost, hsteps⟩
  · exact Or.inl ⟨v, vm₁, B, X₁.warmed, X', hpost, fun target h => hstep₁ _ fun acts => by rw [doInvoke_state]; exact hsteps.trans h⟩
  · exact Or.inr ⟨q, vm₁, B, X₁.warmed, X', hpost, hstep₁ _ fun acts => by rw [doInvoke_state]; exact hsteps⟩
theorem vx_callSX (X : Stand p l e R s m args below meth c T locs cells slots) (hexec : p.tables.exec = Jvm.exec) {own : String} {index : Nat} {y : MethodName} {bytes : ByteArray} {maxL : Nat} {ret : Option FieldType} {hh : List (Nat × Nat × Nat × Nat)}
    (hown : s.vm.findClass own = some m.cls) (hlink : (Cond.methodLink own index y).before args s = true) (hstat : (Cond.static y).before args s = true) (hinit : (Cond.initialized y.cls).before args s = true)
    (hcode : (Cond.codeWith y bytes maxL ret hh).before args s = true) (hy : y.cls ≠ "java/lang/invoke/MethodHandle" ∧ y.cls ≠ "java/lang/invoke/VarHandle")
    {W9 : Nat} {Pre : Pt → Array Value → Prop} {Post : Pt → Array Value → Option Value → Pt → Prop} {PostX : Pt → Array Value → Addr → Pt → Prop} (hK : vx_Back l R p e below s args y 3 W9 Pre Post PostX)
    {g : JFrame} (hg : g.method = m) (hsize : g.locals.size = c.maxLocals) {argsL rest : List Value} (hlen : ∀ sig, parseMethodDescriptor y.desc = some sig → argsL.length = sig.parameters.length)
    (hstack : g.stack = argsL.reverse ++ rest) (hW : 2 * g.monitorRoom + (rest.map fun v => v.category).sum ≤ W9) (hdg : decode c.code g.pc = .ok (.invokestatic index, 3))
    (hpre : ∀ vm₁, s.WarmedH vm₁ → Pre ⟨T.setVm vm₁, locs, cells, slots⟩ argsL.toArray) :
    (∃ (v : Option Value) (vm₁ : Vm) (B : Pt), s.WarmedH vm₁ ∧ Stand p l e R s m args below meth c B.U B.locs B.cells B.slots ∧ Post ⟨T.setVm vm₁, locs, cells, slots⟩ argsL.toArray v B ∧
      ∀ target, Steps p.tables e below (B.U.setTop { g with pc := g.pc + 3, stack := v.toList ++ rest }) target → Steps p.tables e below (T.setTop g) target) ∨
    (∃ (q : Addr) (vm₁ : Vm) (B : Pt), s.WarmedH vm₁ ∧ Stand p l e R s m args below meth c B.U B.locs B.cells B.slots ∧ PostX ⟨T.setVm vm₁, locs, cells, slots⟩ argsL.toArray q B ∧
      Steps p.tables e below (T.setTop g) ((B.U.setTop { g with stack := rest }).pushFrame (.throwing q))) := by
  obtain ⟨mk, methM, cM, hnamed, hmethM, -, -, -, -, -, -, hsigM⟩ := Cond.codeWith_spec hcode
  have hstatic : methM.isStatic = true := Cond.static_spec hnamed hmethM hstat
  obtain ⟨kP, hkP, -⟩ := className_of_methodNamed hnamed
  have hinitP : kP.init = .initialized := Cond.initialized_spec (findClass_of_methodNamed hnamed) hkP hinit
  obtain ⟨vm₁, X₁, hstep₁⟩ := X.invokestatic hexec hown hlink hnamed hmethM hstatic hkP hinitP hy (g := g) hg (argsL := argsL) (rest := rest) (hlen _ hsigM) hstack hdg
  rcases hK m meth c ⟨T.setVm vm₁, locs, cells, slots⟩ { g with stack := rest } (.invokestatic index) mk argsL.toArray X₁ hg hsize hdg hW (X₁.named hnamed) (hpre vm₁ X₁.warmed) with ⟨v, B, X', hpost, hsteps⟩ | ⟨q, B, X', hpost, hsteps⟩
  · exact Or.inl ⟨v, vm₁, B, X₁.warmed, X', hpost, fun target h => hstep₁ _ fun acts => by rw [doInvoke_state]; exact hsteps.trans h⟩
  · exact Or.inr ⟨q, vm₁, B, X₁.warmed, X', hpost, hstep₁ _ fun acts => by rw [doInvoke_state]; exact hsteps⟩
theorem vx_callVW (X : Stand p l e R s m args below meth c T locs cells slots) (hexec : p.tables.exec = Jvm.exec) {own C : String} {index : Nat} {y : MethodName} {bytes : ByteArray} {maxL : Nat} {ret : Option FieldType} {hh : List (Nat × Nat × Nat × Nat)}
    (hown : s.vm.findClass own = some m.cls) (hlink : (Cond.methodLink own index y).before args s = true) (hinst : (Cond.instanceMethod y).before args s = true) (hsel : (Cond.selects C y y).before args s = true)
    (hcode : (Cond.codeWith y bytes maxL ret hh).before args s = true) (hy : y.cls ≠ "java/lang/invoke/MethodHandle" ∧ y.cls ≠ "java/lang/invoke/VarHandle")
    {W9 : Nat} {Pre : Pt → Array Value → Prop} {Post : Pt → Array Value → Option Value → Pt → Prop} (hK : Back l R p e below s args y 3 W9 Pre Post)
    {b : Addr} {cellB : Cell} (hcell : T.heap[b]? = some cellB) (hobj : cellB.vm.isStatics = false) (hcls : s.vm.findClass C = some cellB.cls)
    {g : JFrame} (hg : g.method = m) (hsize : g.locals.size = c.maxLocals) {argsL rest : List Value} (hlen : ∀ sig, parseMethodDescriptor y.desc = some sig → argsL.length = sig.parameters.length)
    (hstack : g.stack = argsL.reverse ++ .ref b :: rest) (hW : 2 * g.monitorRoom + (rest.map fun v => v.category).sum ≤ W9) (hdg : decode c.code g.pc = .ok (.invokevirtual index, 3))
    (hpre : ∀ vm₁, s.WarmedH vm₁ → Pre ⟨T.setVm vm₁, locs, cells, slots⟩ (Value.ref b :: argsL).toArray) :
    ∃ (v : Option Value) (vm₁ : Vm) (B : Pt), s.WarmedH vm₁ ∧ Stand p l e R s m args below meth c B.U B.locs B.cells B.slots ∧ Post ⟨T.setVm vm₁, locs, cells, slots⟩ (Value.ref b :: argsL).toArray v B ∧
      ∀ target, Steps p.tables e below (B.U.setTop { g with pc := g.pc + 3, stack := v.toList ++ rest }) target → Steps p.tables e below (T.setTop g) target := by
  obtain ⟨mk, methM, hnamed, hmethM, hstM, habM⟩ := Cond.instanceMethod_spec hinst
  obtain ⟨m8, methM', cM, hn8, hmethM', -, -, -, -, -, -, hsigM⟩ := Cond.codeWith_spec hcode
  cases Option.some.inj (hn8.symm.trans hnamed)
  cases hmethM.symm.trans hmethM'
  obtain ⟨c2, r2, m2, q1, q2, q3, q4, kP, hkP, hkPi⟩ := Cond.selects_spec hsel
  cases hcls.symm.trans q1
  cases (State.methodFound?_of_named hnamed hy).symm.trans q2
  cases hnamed.symm.trans q3
  have hselP : selectMethod e.platform s.vm cellB.cls mk = .method mk := by rw [Launch.admits_selectMethod X.admits]; exact q4
  obtain ⟨vm₁, X₁, hstep₁⟩ := X.invokevirtual hexec hown hlink hnamed hmethM hstM hkP hkPi hy (a := b) (cell := cellB) hcell
    (fun z h => by rw [h] at hobj; cases hobj) hselP hmethM habM hkP hkPi (g := g) hg (argsL := argsL) (rest := rest) (hlen _ hsigM) hstack hdg
  obtain ⟨v, B, X', hpost, hsteps⟩ := hK m meth c ⟨T.setVm vm₁, locs, cells, slots⟩ { g with stack := rest } (.invokevirtual index) mk (Value.ref b :: argsL).toArray X₁ hg hsize hdg hW (X₁.named hnamed) (hpre vm₁ X₁.warmed)
  exact ⟨v, vm₁, B, X₁.warmed, X', hpost, fun target h => hstep₁ _ fun acts => by rw [doInvoke_state]; exact hsteps.trans h⟩
abbrev vx_CVW (R : Room) (s : State) (args : Array Value) (own C : String) (index : Nat) (y : MethodName) (bytes : ByteArray) (maxL : Nat) (ret : Option FieldType) (hh : List (Nat × Nat × Nat × Nat)) (ws : List Cond) (rm : Room) (mc ms n : Nat) : Prop :=
  (rm.cells = mc ∧ rm.slots = ms ∧ rm.frames + 1 ≤ R.frames ∧ 8 + (maxL + 11) + rm.locals ≤ R.locals ∧ (∀ w ∈ ws, ∀ (a' : Array Value) (U : State), s.WarmedH U.vm → w.before a' U = true) ∧ Cond.codeWith y bytes maxL ret hh ∈ ws) ∧
  (Cond.codeWith y bytes maxL ret hh).before args s = true ∧ (Cond.initialized y.cls).before args s = true ∧ (y.cls ≠ "java/lang/invoke/MethodHandle" ∧ y.cls ≠ "java/lang/invoke/VarHandle") ∧
  (∀ sig, parseMethodDescriptor y.desc = some sig → n = sig.parameters.length) ∧ (Cond.methodLink own index y).before args s = true ∧ (Cond.instanceMethod y).before args s = true ∧ (Cond.selects C y y).before args s = true
theorem vx_cwVW {own C : String} {index maxL mc ms : Nat} {y : MethodName} {bytes : ByteArray} {ret : Option FieldType} {hh : List (Nat × Nat × Nat × Nat)} {Ts ws ws' : List Cond} {rm : Room} (n : Nat) (ht : ∀ w ∈ Ts, w.before args s = true) (hT : GoodIn Ts (wsV own index C y ws)) (hw : ws = Cond.codeWith y bytes maxL ret hh :: ws') (hrc : rm.cells = mc) (hrs : rm.slots = ms)
    (hd : y.cls = C ∧ y.cls ≠ "java/lang/invoke/MethodHandle" ∧ y.cls ≠ "java/lang/invoke/VarHandle" ∧ (parseMethodDescriptor y.desc).map (fun d => d.parameters.length) = some n) (hR : rm.frames + 1 ≤ R.frames ∧ 8 + (maxL + 11) + rm.locals ≤ R.locals) :
    vx_CVW R s args own C index y bytes maxL ret hh ws rm mc ms n := by
  obtain ⟨hC, hd⟩ := hd
  subst hC
  have ok : ∀ w ∈ wsV own index y.cls y ws, w.before args s = true := fun w h => ht w (hT w h).1
  have hG : GoodIn Ts ws := fun w h => hT w (by unfold wsV; exact List.mem_append_right _ h)
  have hc : Cond.codeWith y bytes maxL ret hh ∈ ws := by rw [hw]; exact List.mem_cons_self
  refine ⟨⟨hrc, hrs, hR.1, hR.2, pay_in ht hG, hc⟩, ht _ (hG _ hc).1, ok _ (by simp [wsV]), ⟨hd.1, hd.2.1⟩, fun sig h => ?_, ok _ (by simp [wsV]), ok _ (by simp [wsV]), ok _ (by simp [wsV])⟩
  have h2 := hd.2.2
  rw [h] at h2
  exact (Option.some.inj h2).symm
theorem vx_runVW {y : MethodName} {bytes cc : ByteArray} {maxL nL mc ms n index : Nat} {ret : Option FieldType} {hh : List (Nat × Nat × Nat × Nat)} {ws : List Cond} {rm : Room} {Pc : Array Value → State → Prop} {Qc : Array Value → State → Outcome → State → Prop} {free : Addr → Prop} {Ts : List Cond} {own C : String} {b : Addr} {As rest : List Value} {g : JFrame}
    (S : CallFix p m c cc nL s args Ts own) (hM : Met l y ws rm Pc Qc mc ms free) (cw : vx_CVW R s args own C index y bytes maxL ret hh ws rm mc ms n) (hp : PreV s H C b Pc As)
    (hg : g.method = m) (hn : As.length = n) (hsize : g.locals.size = nL) (hstack : g.stack = As.reverse ++ .ref b :: rest) (hW : 2 * g.monitorRoom + (rest.map fun v => v.category).sum ≤ 8) (hdg : decode cc g.pc = .ok (.invokevirtual index, 3)) (hf : cells + mc ≤ R.cells ∧ slots + ms ≤ R.slots) :
    va_Run p l e R s m args below meth c H locs cells slots mc ms g rest (Qc (Value.ref b :: As).toArray) free := by
  obtain ⟨⟨hrc, hrs, hfr, hlo, hws, hcw⟩, hcode, hini, hy, hlen, hl, hin, hse⟩ := cw
  have hK : Back l R p e below s args y 3 8 (PreOf R mc ms Pc) (PostOf Qc mc ms free) := va_backW (hh := hh) (bytes := bytes) (maxL := maxL) (ret := ret) hM hp.1 hrc hrs hfr hlo hws hcw (fun a' U hW => word_at hW (Or.inl (by first | rfl | simp [Cond.onTables, Cond.keeps, Cond.steady])) hini)
  obtain ⟨hx, hb, hml, ho, -⟩ := S
  obtain ⟨-, ⟨cellB, hcB, hoB, hclB⟩, hPc⟩ := hp
  intro T hT X
  obtain ⟨v, vm₁, ⟨U', l2, c2, s2⟩, hW₁, X', ⟨g', mk, t, L, e1, e2, hq, h1, hL, h2, h3⟩, st⟩ := vx_callVW X hx (C := C) (hh := hh) (bytes := bytes) (maxL := maxL) (ret := ret) ho hl hin hse hcode hy hK (by rw [hT]; exact hcB) hoB hclB hg (hsize.trans hml.symm) (argsL := As) (rest := rest) (fun sig h => hn.trans (hlen sig h)) hstack hW (by rw [hb]; exact hdg)
    (fun vm₁ hW₁ => ⟨hf.1, hf.2, hPc (T.setVm vm₁) hT hW₁⟩)
  dsimp only [Pt.U, Pt.locs, Pt.cells, Pt.slots] at X' e1 e2 h1 h2 h3 st
  subst h1; subst h2; subst h3
  exact ⟨v, (T.setVm vm₁).calling g' mk (Value.ref b :: As).toArray, t, U', L, hT, X', hL, e1, e2, hq, st⟩
section
variable {y : MethodName} {bytes cc : ByteArray} {maxL nL mc ms n index : Nat} {ret : Option FieldType} {ws : List Cond} {rm : Room} {Pc : Array Value → State → Prop} {Qc : Array Value → State → Outcome → State → Prop} {XC : String → State → State → Prop} {free : Addr → Prop} {Ts : List Cond} {own C : String} {b : Addr} {As rest : List Value} {g : JFrame}
theorem vx_runVX {hh : List (Nat × Nat × Nat × Nat)} (S : CallFix p m c cc nL s args Ts own) (hM : vx_Met l y ws rm Pc Qc XC mc ms free) (cw : vx_CVW R s args own C index y bytes maxL ret hh ws rm mc ms n) (hp : PreV s H C b Pc As)
    (hg : g.method = m) (hn : As.length = n) (hsize : g.locals.size = nL) (hstack : g.stack = As.reverse ++ .ref b :: rest) (hW : 2 * g.monitorRoom + (rest.map fun v => v.category).sum ≤ 8) (hdg : decode cc g.pc = .ok (.invokevirtual index, 3)) (hf : cells + mc ≤ R.cells ∧ slots + ms ≤ R.slots) :
    vx_Run p l e R s m args below meth c H locs cells slots mc ms g rest (Qc (Value.ref b :: As).toArray) XC free := by
  obtain ⟨⟨hrc, hrs, hfr, hlo, hws, hcw⟩, hcode, hini, hy, hlen, hl, hin, hse⟩ := cw
  have hK : vx_Back l R p e below s args y 3 8 (PreOf R mc ms Pc) (PostOf Qc mc ms free) (vx_Post XC mc ms free) := vx_backW (hh := hh) (bytes := bytes) (maxL := maxL) (ret := ret) hM hp.1 hrc hrs hfr hlo hws hcw (fun a' U hW => word_at hW (Or.inl (by first | rfl | simp [Cond.onTables, Cond.keeps, Cond.steady])) hini)
  obtain ⟨hx, hb, hml, ho, -⟩ := S
  obtain ⟨-, ⟨cellB, hcB, hoB, hclB⟩, hPc⟩ := hp
  intro T hT X
  rcases vx_callVX X hx (C := C) (hh := hh) (bytes := bytes) (maxL := maxL) (ret := ret) ho hl hin hse hcode hy hK (by rw [hT]; exact hcB) hoB hclB hg (hsize.trans hml.symm) (argsL := As) (rest := rest) (fun sig h => hn.trans (hlen sig h)) hstack hW (by rw [hb]; exact hdg)
    (fun vm₁ hW₁ => ⟨hf.1, hf.2, hPc (T.setVm vm₁) hT hW₁⟩) with ⟨v, vm₁, ⟨U', l2, c2, s2⟩, hW₁, X', ⟨g', mk, t, L, e1, e2, hq, h1, hL, h2, h3⟩, st⟩ | ⟨q, vm₁, ⟨U', l2, c2, s2⟩, hW₁, X', ⟨g', mk, t, L, E, ce, e1, e2, hq, hce, hcv, hcl, h1, hL, h2, h3⟩, st⟩
  · dsimp only [Pt.U, Pt.locs, Pt.cells, Pt.slots] at X' e1 e2 h1 h2 h3 st
    subst h1; subst h2; subst h3
    exact Or.inl ⟨v, (T.setVm vm₁).calling g' mk (Value.ref b :: As).toArray, t, U', L, hT, X', hL, e1, e2, hq, st⟩
  · dsimp only [Pt.U, Pt.locs, Pt.cells, Pt.slots] at X' e1 e2 h1 h2 h3 st hcl
    subst h1; subst h2; subst h3
    exact Or.inr ⟨q, (T.setVm vm₁).calling g' mk (Value.ref b :: As).toArray, t, U', L, E, ce, hT, X', hL, e1, e2, hq, hce, hcv, vx_cls hW₁ hcl, st⟩
theorem vx_runSX {hh : List (Nat × Nat × Nat × Nat)} (S : CallFix p m c cc nL s args Ts own) (hM : vx_Met l y ws rm Pc Qc XC mc ms free) (cw : vx_CSW R s args own index y bytes maxL ret hh ws rm mc ms n) (hp : PreS s H Pc As)
    (hg : g.method = m) (hn : As.length = n) (hsize : g.locals.size = nL) (hstack : g.stack = As.reverse ++ rest) (hW : 2 * g.monitorRoom + (rest.map fun v => v.category).sum ≤ 8) (hdg : decode cc g.pc = .ok (.invokestatic index, 3)) (hf : cells + mc ≤ R.cells ∧ slots + ms ≤ R.slots) :
    vx_Run p l e R s m args below meth c H locs cells slots mc ms g rest (Qc As.toArray) XC free := by
  obtain ⟨⟨hrc, hrs, hfr, hlo, hws, hcw⟩, hcode, hini, hy, hlen, hl, hstt⟩ := cw
  have hK : vx_Back l R p e below s args y 3 8 (PreOf R mc ms Pc) (PostOf Qc mc ms free) (vx_Post XC mc ms free) := vx_backW (hh := hh) (bytes := bytes) (maxL := maxL) (ret := ret) hM hp.1 hrc hrs hfr hlo hws hcw (fun a' U hW => word_at hW (Or.inl (by first | rfl | simp [Cond.onTables, Cond.keeps, Cond.steady])) hini)
  obtain ⟨hx, hb, hml, ho, -⟩ := S
  intro T hT X
  rcases vx_callSX X hx (hh := hh) (bytes := bytes) (maxL := maxL) (ret := ret) ho hl hstt hini hcode hy hK hg (hsize.trans hml.symm) (argsL := As) (rest := rest) (fun sig h => hn.trans (hlen sig h)) hstack hW (by rw [hb]; exact hdg)
    (fun vm₁ hW₁ => ⟨hf.1, hf.2, hp.2 (T.setVm vm₁) hT hW₁⟩) with ⟨v, vm₁, ⟨U', l2, c2, s2⟩, hW₁, X', ⟨g', mk, t, L, e1, e2, hq, h1, hL, h2, h3⟩, st⟩ | ⟨q, vm₁, ⟨U', l2, c2, s2⟩, hW₁, X', ⟨g', mk, t, L, E, ce, e1, e2, hq, hce, hcv, hcl, h1, hL, h2, h3⟩, st⟩
  · dsimp only [Pt.U, Pt.locs, Pt.cells, Pt.slots] at X' e1 e2 h1 h2 h3 st
    subst h1; subst h2; subst h3
    exact Or.inl ⟨v, (T.setVm vm₁).calling g' mk As.toArray, t, U', L, hT, X', hL, e1, e2, hq, st⟩
  · dsimp only [Pt.U, Pt.locs, Pt.cells, Pt.slots] at X' e1 e2 h1 h2 h3 st hcl
    subst h1; subst h2; subst h3
    exact Or.inr ⟨q, (T.setVm vm₁).calling g' mk As.toArray, t, U', L, E, ce, hT, X', hL, e1, e2, hq, hce, hcv, vx_cls hW₁ hcl, st⟩
end
end VXH
theorem vx_ofWH {l : Launch} {y : MethodName} {ws ws' : List Cond} {rm : Room} {Pc : Array Value → State → Prop} {Qc : Array Value → State → Outcome → State → Prop} {XC : String → State → State → Prop} {mc ms : Nat} {free : Addr → Prop} {cc : ByteArray} {maxL : Nat} {ret : Option FieldType} {hh : List (Nat × Nat × Nat × Nat)}
    (hy : plainName y.cls = true) (hw : ws = Cond.codeWith y cc maxL ret hh :: ws')
    (body : ∀ p e s m args below meth c s₁, BodyLoose p l y (headSpec ws rm) cc maxL ret e s m args below meth c s₁ → c.maxLocals = maxL → Pc args s →
      W p l e (headSpec ws rm).room s m args below meth c s.heap [] 0 0 (vx_MQ below Qc XC args s mc ms free) (entryFrame m args maxL)) : vx_Met l y ws rm Pc Qc XC mc ms free := by
  refine MetFree.of_bodyS (code := cc) (maxLocals := maxL) (ret := ret) hy ?_ ?_
  · intro args s m h hn
    obtain ⟨m9, meth, c, hn9, h1, h2, h3, h4, -, h5, h6, -⟩ := Cond.codeWith_spec (atoms_spec (ws := ws) h _ (by rw [hw]; exact List.mem_cons_self))
    cases hn.symm.trans hn9
    exact ⟨meth, c, h1, h2, h3, h4, h5, h6⟩
  · intro p e s m args below meth c s₁ B hml hP _
    have hh0 : s₁.heap = s.heap := by rw [B.state]; rfl
    obtain ⟨t, a1, o, b1, b2, b3⟩ := body p e s m args below meth c s₁ B hml hP s₁ hh0 (Stand.of_body B)
    exact ⟨t, o, a1, b1, b2, b3⟩
/-! ===== END ===== -/
end
section
def RX0 : String := "PeerAudit$Machine"
def TX0 : u_T := fun k => match k with
  | 0 => ("PeerAudit$Machine", "number", "I", true)
  | 1 => ("PeerAudit$Machine", "state", "I", false)
  | 2 => ("PeerAudit$Machine", "silent", "Z", false)
  | 3 => ("PeerAudit$Machine", "aboutToLie", "Z", false)
  | 4 => ("PeerAudit$Machine", "witnesses", "I", false)
  | 5 => ("PeerAudit$Machine", "verdicts", "[I", true)
  | 6 => ("PeerAudit$Machine", "log", "LPeerAudit$Table;", true)
  | 7 => ("PeerAudit$Machine", "held", "LPeerAudit$Table;", true)
  | _ => ("PeerAudit$Machine", "pending", "LPeerAudit$Table;", true)
def tyX0 : Nat → FieldType := fun k => match k with
  | 0 => .int
  | 1 => .int
  | 2 => .boolean
  | 3 => .boolean
  | 4 => .int
  | 5 => .array .int
  | 6 => .object "PeerAudit$Table"
  | 7 => .object "PeerAudit$Table"
  | _ => .object "PeerAudit$Table"
theorem nmX0 : ∀ a, a < 9 → ∀ b, b < 9 → a ≠ b → (TX0 a).2.1 ≠ (TX0 b).2.1 := by decide +kernel
theorem tyX0_ok : ∀ k, k < 9 → parseFieldDescriptor (TX0 k).2.2.1 = some (tyX0 k) := by decide +kernel
abbrev cX0_init : ByteArray := prog_2_method_1_code
def yX0_init : MethodName := ⟨RX0, "<init>", "(I)V"⟩
abbrev cX0_start : ByteArray := prog_2_method_2_code
def yX0_start : MethodName := ⟨RX0, "start", "(I)V"⟩
abbrev cX0_copyMachine : ByteArray := prog_2_method_3_code
def yX0_copyMachine : MethodName := ⟨RX0, "copyMachine", "(LPeerAudit$Machine;)V"⟩
abbrev cX0_hasRoom : ByteArray := prog_2_method_4_code
def yX0_hasRoom : MethodName := ⟨RX0, "hasRoom", "(I)Z"⟩
abbrev cX0_hasWitness : ByteArray := prog_2_method_5_code
def yX0_hasWitness : MethodName := ⟨RX0, "hasWitness", "(I)Z"⟩
abbrev cX0_chainAt : ByteArray := prog_2_method_6_code
def yX0_chainAt : MethodName := ⟨RX0, "chainAt", "(I)I"⟩
abbrev cX0_packedEntry : ByteArray := prog_2_method_7_code
def yX0_packedEntry : MethodName := ⟨RX0, "packedEntry", "(I)I"⟩
abbrev cX0_append : ByteArray := prog_2_method_8_code
def yX0_append : MethodName := ⟨RX0, "append", "(III)V"⟩
abbrev cX0_rechain : ByteArray := prog_2_method_9_code
def yX0_rechain : MethodName := ⟨RX0, "rechain", "(I)V"⟩
abbrev cX0_hold : ByteArray := prog_2_method_10_code
def yX0_hold : MethodName := ⟨RX0, "hold", "(III)V"⟩
abbrev cX0_beliedEntryOf : ByteArray := prog_2_method_11_code
def yX0_beliedEntryOf : MethodName := ⟨RX0, "beliedEntryOf", "(LPeerAudit$Machine;)I"⟩
abbrev cX0_replayFault : ByteArray := prog_2_method_12_code
def yX0_replayFault : MethodName := ⟨RX0, "replayFault", "(I)I"⟩
abbrev cX0_isSend : ByteArray := prog_2_method_13_code
def yX0_isSend : MethodName := ⟨RX0, "isSend", "(III)Z"⟩
def RX1 : String := "PeerAudit$Table"
def TX1 : u_T := fun k => match k with
  | 0 => ("PeerAudit$Table", "width", "I", true)
  | 1 => ("PeerAudit$Table", "most", "I", true)
  | 2 => ("PeerAudit$Table", "cells", "[I", true)
  | _ => ("PeerAudit$Table", "count", "I", false)
def tyX1 : Nat → FieldType := fun k => match k with
  | 0 => .int
  | 1 => .int
  | 2 => .array .int
  | _ => .int
theorem nmX1 : ∀ a, a < 4 → ∀ b, b < 4 → a ≠ b → (TX1 a).2.1 ≠ (TX1 b).2.1 := by decide +kernel
theorem tyX1_ok : ∀ k, k < 4 → parseFieldDescriptor (TX1 k).2.2.1 = some (tyX1 k) := by decide +kernel
abbrev cX1_init : ByteArray := prog_3_method_1_code
def yX1_init : MethodName := ⟨RX1, "<init>", "(II)V"⟩
abbrev cX1_get : ByteArray := prog_3_method_2_code
def yX1_get : MethodName := ⟨RX1, "get", "(II)I"⟩
abbrev cX1_set : ByteArray := prog_3_method_3_code
def yX1_set : MethodName := ⟨RX1, "set", "(III)V"⟩
abbrev cX1_addRow : ByteArray := prog_3_method_4_code
def yX1_addRow : MethodName := ⟨RX1, "addRow", "()I"⟩
abbrev cX1_addCopy : ByteArray := prog_3_method_5_code
def yX1_addCopy : MethodName := ⟨RX1, "addCopy", "(LPeerAudit$Table;I)V"⟩
abbrev cX1_removeFirst : ByteArray := prog_3_method_6_code
def yX1_removeFirst : MethodName := ⟨RX1, "removeFirst", "()V"⟩
abbrev cX1_keepFirst : ByteArray := prog_3_method_7_code
def yX1_keepFirst : MethodName := ⟨RX1, "keepFirst", "(I)V"⟩
abbrev cX1_copyRows : ByteArray := prog_3_method_8_code
def yX1_copyRows : MethodName := ⟨RX1, "copyRows", "(LPeerAudit$Table;)V"⟩
def RX2 : String := "PeerAudit$World"
def TX2 : u_T := fun k => match k with
  | 0 => ("PeerAudit$World", "n", "I", false)
  | 1 => ("PeerAudit$World", "machines", "[LPeerAudit$Machine;", true)
  | 2 => ("PeerAudit$World", "queue", "LPeerAudit$Table;", true)
  | _ => ("PeerAudit$World", "evidence", "LPeerAudit$Table;", true)
def tyX2 : Nat → FieldType := fun k => match k with
  | 0 => .int
  | 1 => .array (.object "PeerAudit$Machine")
  | 2 => .object "PeerAudit$Table"
  | _ => .object "PeerAudit$Table"
theorem nmX2 : ∀ a, a < 4 → ∀ b, b < 4 → a ≠ b → (TX2 a).2.1 ≠ (TX2 b).2.1 := by decide +kernel
theorem tyX2_ok : ∀ k, k < 4 → parseFieldDescriptor (TX2 k).2.2.1 = some (tyX2 k) := by decide +kernel
abbrev cX2_init : ByteArray := prog_4_method_1_code
def yX2_init : MethodName := ⟨RX2, "<init>", "()V"⟩
abbrev cX2_begin : ByteArray := prog_4_method_2_code
def yX2_begin : MethodName := ⟨RX2, "begin", "(I)V"⟩
abbrev cX2_copyWorld : ByteArray := prog_4_method_3_code
def yX2_copyWorld : MethodName := ⟨RX2, "copyWorld", "(LPeerAudit$World;)V"⟩
abbrev cX2_isMachine : ByteArray := prog_4_method_4_code
def yX2_isMachine : MethodName := ⟨RX2, "isMachine", "(I)Z"⟩
abbrev cX2_take : ByteArray := prog_4_method_5_code
def yX2_take : MethodName := ⟨RX2, "take", "(LPeerAudit$Machine;III)V"⟩
abbrev cX2_send : ByteArray := prog_4_method_6_code
def yX2_send : MethodName := ⟨RX2, "send", "(LPeerAudit$Machine;)V"⟩
abbrev cX2_firstReceiver : ByteArray := prog_4_method_7_code
def yX2_firstReceiver : MethodName := ⟨RX2, "firstReceiver", "()I"⟩
abbrev cX2_canDeliver : ByteArray := prog_4_method_8_code
def yX2_canDeliver : MethodName := ⟨RX2, "canDeliver", "()Z"⟩
abbrev cX2_deliverFirst : ByteArray := prog_4_method_9_code
def yX2_deliverFirst : MethodName := ⟨RX2, "deliverFirst", "()V"⟩
abbrev cX2_judgeByAll : ByteArray := prog_4_method_10_code
def yX2_judgeByAll : MethodName := ⟨RX2, "judgeByAll", "(LPeerAudit$Machine;)I"⟩
abbrev cX2_judge : ByteArray := prog_4_method_11_code
def yX2_judge : MethodName := ⟨RX2, "judge", "(ILPeerAudit$Machine;)I"⟩
abbrev cX2_beliedEntry : ByteArray := prog_4_method_12_code
def yX2_beliedEntry : MethodName := ⟨RX2, "beliedEntry", "(LPeerAudit$Machine;)I"⟩
abbrev cX2_addEvidence : ByteArray := prog_4_method_13_code
def yX2_addEvidence : MethodName := ⟨RX2, "addEvidence", "(IIII)V"⟩
abbrev cX2_someWitnessSays : ByteArray := prog_4_method_14_code
def yX2_someWitnessSays : MethodName := ⟨RX2, "someWitnessSays", "(LPeerAudit$Machine;I)Z"⟩
def RX3 : String := "PeerAudit"
def TX3 : u_T := fun k => match k with
  | 0 => ("PeerAudit", "world", "LPeerAudit$World;", true)
  | 1 => ("PeerAudit", "saved", "[LPeerAudit$World;", true)
  | 2 => ("PeerAudit", "savedCount", "I", false)
  | _ => ("PeerAudit", "nextSlot", "I", false)
def tyX3 : Nat → FieldType := fun k => match k with
  | 0 => .object "PeerAudit$World"
  | 1 => .array (.object "PeerAudit$World")
  | 2 => .int
  | _ => .int
theorem nmX3 : ∀ a, a < 4 → ∀ b, b < 4 → a ≠ b → (TX3 a).2.1 ≠ (TX3 b).2.1 := by decide +kernel
theorem tyX3_ok : ∀ k, k < 4 → parseFieldDescriptor (TX3 k).2.2.1 = some (tyX3 k) := by decide +kernel
abbrev cX3_init : ByteArray := prog_1_method_1_code
def yX3_init : MethodName := ⟨RX3, "<init>", "()V"⟩
abbrev cX3_reset : ByteArray := prog_1_method_2_code
def yX3_reset : MethodName := ⟨RX3, "reset", "(I)I"⟩
abbrev cX3_input : ByteArray := prog_1_method_3_code
def yX3_input : MethodName := ⟨RX3, "input", "(II)I"⟩
abbrev cX3_deliver : ByteArray := prog_1_method_4_code
def yX3_deliver : MethodName := ⟨RX3, "deliver", "()I"⟩
abbrev cX3_run : ByteArray := prog_1_method_5_code
def yX3_run : MethodName := ⟨RX3, "run", "(I)I"⟩
abbrev cX3_queued : ByteArray := prog_1_method_6_code
def yX3_queued : MethodName := ⟨RX3, "queued", "()I"⟩
abbrev cX3_state : ByteArray := prog_1_method_7_code
def yX3_state : MethodName := ⟨RX3, "state", "(I)I"⟩
abbrev cX3_setSilent : ByteArray := prog_1_method_8_code
def yX3_setSilent : MethodName := ⟨RX3, "setSilent", "(IZ)I"⟩
abbrev cX3_pending : ByteArray := prog_1_method_9_code
def yX3_pending : MethodName := ⟨RX3, "pending", "(I)I"⟩
abbrev cX3_resend : ByteArray := prog_1_method_10_code
def yX3_resend : MethodName := ⟨RX3, "resend", "(I)I"⟩
abbrev cX3_lie : ByteArray := prog_1_method_11_code
def yX3_lie : MethodName := ⟨RX3, "lie", "(I)Z"⟩
abbrev cX3_tamper : ByteArray := prog_1_method_12_code
def yX3_tamper : MethodName := ⟨RX3, "tamper", "(III)I"⟩
abbrev cX3_cut : ByteArray := prog_1_method_13_code
def yX3_cut : MethodName := ⟨RX3, "cut", "(II)I"⟩
abbrev cX3_logLength : ByteArray := prog_1_method_14_code
def yX3_logLength : MethodName := ⟨RX3, "logLength", "(I)I"⟩
abbrev cX3_entry : ByteArray := prog_1_method_15_code
def yX3_entry : MethodName := ⟨RX3, "entry", "(II)I"⟩
abbrev cX3_chain : ByteArray := prog_1_method_16_code
def yX3_chain : MethodName := ⟨RX3, "chain", "(II)I"⟩
abbrev cX3_held : ByteArray := prog_1_method_17_code
def yX3_held : MethodName := ⟨RX3, "held", "(I)I"⟩
abbrev cX3_authenticator : ByteArray := prog_1_method_18_code
def yX3_authenticator : MethodName := ⟨RX3, "authenticator", "(III)I"⟩
abbrev cX3_setWitnesses : ByteArray := prog_1_method_19_code
def yX3_setWitnesses : MethodName := ⟨RX3, "setWitnesses", "(II)I"⟩
abbrev cX3_audit : ByteArray := prog_1_method_20_code
def yX3_audit : MethodName := ⟨RX3, "audit", "(II)I"⟩
abbrev cX3_auditAll : ByteArray := prog_1_method_21_code
def yX3_auditAll : MethodName := ⟨RX3, "auditAll", "()I"⟩
abbrev cX3_verdict : ByteArray := prog_1_method_22_code
def yX3_verdict : MethodName := ⟨RX3, "verdict", "(II)I"⟩
abbrev cX3_verdictMask : ByteArray := prog_1_method_23_code
def yX3_verdictMask : MethodName := ⟨RX3, "verdictMask", "(I)I"⟩
abbrev cX3_evidenceCount : ByteArray := prog_1_method_24_code
def yX3_evidenceCount : MethodName := ⟨RX3, "evidenceCount", "()I"⟩
abbrev cX3_evidence : ByteArray := prog_1_method_25_code
def yX3_evidence : MethodName := ⟨RX3, "evidence", "(II)I"⟩
abbrev cX3_undo : ByteArray := prog_1_method_26_code
def yX3_undo : MethodName := ⟨RX3, "undo", "()I"⟩
abbrev cX3_digest : ByteArray := prog_1_method_27_code
def yX3_digest : MethodName := ⟨RX3, "digest", "()J"⟩
abbrev cX3_requireMachine : ByteArray := prog_1_method_28_code
def yX3_requireMachine : MethodName := ⟨RX3, "requireMachine", "(I)V"⟩
abbrev cX3_requireEntry : ByteArray := prog_1_method_29_code
def yX3_requireEntry : MethodName := ⟨RX3, "requireEntry", "(II)V"⟩
abbrev cX3_requireValue : ByteArray := prog_1_method_30_code
def yX3_requireValue : MethodName := ⟨RX3, "requireValue", "(I)V"⟩
abbrev cX3_save : ByteArray := prog_1_method_31_code
def yX3_save : MethodName := ⟨RX3, "save", "()V"⟩
abbrev cX3_mix : ByteArray := prog_1_method_32_code
def yX3_mix : MethodName := ⟨RX3, "mix", "(JJ)J"⟩
abbrev cX3_mixMachine : ByteArray := prog_1_method_33_code
def yX3_mixMachine : MethodName := ⟨RX3, "mixMachine", "(JLPeerAudit$Machine;I)J"⟩
abbrev cX3_mixQueue : ByteArray := prog_1_method_34_code
def yX3_mixQueue : MethodName := ⟨RX3, "mixQueue", "(JLPeerAudit$Table;)J"⟩
abbrev cX3_mixEvidence : ByteArray := prog_1_method_35_code
def yX3_mixEvidence : MethodName := ⟨RX3, "mixEvidence", "(JLPeerAudit$Table;)J"⟩
abbrev cX3_nextState : ByteArray := prog_1_method_36_code
def yX3_nextState : MethodName := ⟨RX3, "nextState", "(III)I"⟩
abbrev cX3_hasOutput : ByteArray := prog_1_method_37_code
def yX3_hasOutput : MethodName := ⟨RX3, "hasOutput", "(I)Z"⟩
abbrev cX3_outputValue : ByteArray := prog_1_method_38_code
def yX3_outputValue : MethodName := ⟨RX3, "outputValue", "(I)I"⟩
abbrev cX3_outputPeer : ByteArray := prog_1_method_39_code
def yX3_outputPeer : MethodName := ⟨RX3, "outputPeer", "(III)I"⟩
abbrev cX3_nextChain : ByteArray := prog_1_method_40_code
def yX3_nextChain : MethodName := ⟨RX3, "nextChain", "(IIII)I"⟩
abbrev cX3_othersOf : ByteArray := prog_1_method_41_code
def yX3_othersOf : MethodName := ⟨RX3, "othersOf", "(II)I"⟩
def RX4 : String := "PeerAuditModel"
def TX4 : u_T := fun k => match k with
  | 0 => ("PeerAuditModel", "now", "[I", true)
  | 1 => ("PeerAuditModel", "past", "[I", true)
  | 2 => ("PeerAuditModel", "saved", "I", false)
  | 3 => ("PeerAuditModel", "refusal", "I", false)
  | _ => ("PeerAuditModel", "hash", "J", false)
def tyX4 : Nat → FieldType := fun k => match k with
  | 0 => .array .int
  | 1 => .array .int
  | 2 => .int
  | 3 => .int
  | _ => .long
theorem nmX4 : ∀ a, a < 5 → ∀ b, b < 5 → a ≠ b → (TX4 a).2.1 ≠ (TX4 b).2.1 := by decide +kernel
theorem tyX4_ok : ∀ k, k < 5 → parseFieldDescriptor (TX4 k).2.2.1 = some (tyX4 k) := by decide +kernel
abbrev cX4_init : ByteArray := prog_6_method_1_code
def yX4_init : MethodName := ⟨RX4, "<init>", "()V"⟩
abbrev cX4_thrown : ByteArray := prog_6_method_2_code
def yX4_thrown : MethodName := ⟨RX4, "thrown", "()I"⟩
abbrev cX4_refused : ByteArray := prog_6_method_3_code
def yX4_refused : MethodName := ⟨RX4, "refused", "(I)Z"⟩
abbrev cX4_within : ByteArray := prog_6_method_4_code
def yX4_within : MethodName := ⟨RX4, "within", "(III)Z"⟩
abbrev cX4_many : ByteArray := prog_6_method_5_code
def yX4_many : MethodName := ⟨RX4, "many", "()I"⟩
abbrev cX4_isMachine : ByteArray := prog_6_method_6_code
def yX4_isMachine : MethodName := ⟨RX4, "isMachine", "(I)Z"⟩
abbrev cX4_at : ByteArray := prog_6_method_7_code
def yX4_at : MethodName := ⟨RX4, "at", "(II)I"⟩
abbrev cX4_get : ByteArray := prog_6_method_8_code
def yX4_get : MethodName := ⟨RX4, "get", "(II)I"⟩
abbrev cX4_begins : ByteArray := prog_6_method_9_code
def yX4_begins : MethodName := ⟨RX4, "begins", "(I)V"⟩
abbrev cX4_saves : ByteArray := prog_6_method_10_code
def yX4_saves : MethodName := ⟨RX4, "saves", "()V"⟩
abbrev cX4_undo : ByteArray := prog_6_method_11_code
def yX4_undo : MethodName := ⟨RX4, "undo", "()I"⟩
abbrev cX4_entryOf : ByteArray := prog_6_method_12_code
def yX4_entryOf : MethodName := ⟨RX4, "entryOf", "(III)I"⟩
abbrev cX4_kindOf : ByteArray := prog_6_method_13_code
def yX4_kindOf : MethodName := ⟨RX4, "kindOf", "(I)I"⟩
abbrev cX4_peerOf : ByteArray := prog_6_method_14_code
def yX4_peerOf : MethodName := ⟨RX4, "peerOf", "(I)I"⟩
abbrev cX4_valueOf : ByteArray := prog_6_method_15_code
def yX4_valueOf : MethodName := ⟨RX4, "valueOf", "(I)I"⟩
abbrev cX4_entryAt : ByteArray := prog_6_method_16_code
def yX4_entryAt : MethodName := ⟨RX4, "entryAt", "(II)I"⟩
abbrev cX4_chainAt : ByteArray := prog_6_method_17_code
def yX4_chainAt : MethodName := ⟨RX4, "chainAt", "(II)I"⟩
abbrev cX4_logs : ByteArray := prog_6_method_18_code
def yX4_logs : MethodName := ⟨RX4, "logs", "(II)V"⟩
abbrev cX4_comesToHold : ByteArray := prog_6_method_19_code
def yX4_comesToHold : MethodName := ⟨RX4, "comesToHold", "(IIII)V"⟩
abbrev cX4_behind : ByteArray := prog_6_method_20_code
def yX4_behind : MethodName := ⟨RX4, "behind", "(III)I"⟩
abbrev cX4_goesTo : ByteArray := prog_6_method_21_code
def yX4_goesTo : MethodName := ⟨RX4, "goesTo", "(II)I"⟩
abbrev cX4_takes : ByteArray := prog_6_method_22_code
def yX4_takes : MethodName := ⟨RX4, "takes", "(IIII)V"⟩
abbrev cX4_puts : ByteArray := prog_6_method_23_code
def yX4_puts : MethodName := ⟨RX4, "puts", "(IIIIII)V"⟩
abbrev cX4_hasRoom : ByteArray := prog_6_method_24_code
def yX4_hasRoom : MethodName := ⟨RX4, "hasRoom", "(I)Z"⟩
abbrev cX4_isBarred : ByteArray := prog_6_method_25_code
def yX4_isBarred : MethodName := ⟨RX4, "isBarred", "()Z"⟩
abbrev cX4_delivers : ByteArray := prog_6_method_26_code
def yX4_delivers : MethodName := ⟨RX4, "delivers", "()V"⟩
abbrev cX4_reset : ByteArray := prog_6_method_27_code
def yX4_reset : MethodName := ⟨RX4, "reset", "(I)I"⟩
abbrev cX4_input : ByteArray := prog_6_method_28_code
def yX4_input : MethodName := ⟨RX4, "input", "(II)I"⟩
abbrev cX4_deliver : ByteArray := prog_6_method_29_code
def yX4_deliver : MethodName := ⟨RX4, "deliver", "()I"⟩
abbrev cX4_run : ByteArray := prog_6_method_30_code
def yX4_run : MethodName := ⟨RX4, "run", "(I)I"⟩
abbrev cX4_queued : ByteArray := prog_6_method_31_code
def yX4_queued : MethodName := ⟨RX4, "queued", "()I"⟩
abbrev cX4_state : ByteArray := prog_6_method_32_code
def yX4_state : MethodName := ⟨RX4, "state", "(I)I"⟩
abbrev cX4_setSilent : ByteArray := prog_6_method_33_code
def yX4_setSilent : MethodName := ⟨RX4, "setSilent", "(IZ)I"⟩
abbrev cX4_pending : ByteArray := prog_6_method_34_code
def yX4_pending : MethodName := ⟨RX4, "pending", "(I)I"⟩
abbrev cX4_resend : ByteArray := prog_6_method_35_code
def yX4_resend : MethodName := ⟨RX4, "resend", "(I)I"⟩
abbrev cX4_lie : ByteArray := prog_6_method_36_code
def yX4_lie : MethodName := ⟨RX4, "lie", "(I)Z"⟩
abbrev cX4_isEntry : ByteArray := prog_6_method_37_code
def yX4_isEntry : MethodName := ⟨RX4, "isEntry", "(II)Z"⟩
abbrev cX4_tamper : ByteArray := prog_6_method_38_code
def yX4_tamper : MethodName := ⟨RX4, "tamper", "(III)I"⟩
abbrev cX4_cut : ByteArray := prog_6_method_39_code
def yX4_cut : MethodName := ⟨RX4, "cut", "(II)I"⟩
abbrev cX4_logLength : ByteArray := prog_6_method_40_code
def yX4_logLength : MethodName := ⟨RX4, "logLength", "(I)I"⟩
abbrev cX4_entry : ByteArray := prog_6_method_41_code
def yX4_entry : MethodName := ⟨RX4, "entry", "(II)I"⟩
abbrev cX4_chain : ByteArray := prog_6_method_42_code
def yX4_chain : MethodName := ⟨RX4, "chain", "(II)I"⟩
abbrev cX4_held : ByteArray := prog_6_method_43_code
def yX4_held : MethodName := ⟨RX4, "held", "(I)I"⟩
abbrev cX4_authenticator : ByteArray := prog_6_method_44_code
def yX4_authenticator : MethodName := ⟨RX4, "authenticator", "(III)I"⟩
abbrev cX4_setWitnesses : ByteArray := prog_6_method_45_code
def yX4_setWitnesses : MethodName := ⟨RX4, "setWitnesses", "(II)I"⟩
abbrev cX4_isWitness : ByteArray := prog_6_method_46_code
def yX4_isWitness : MethodName := ⟨RX4, "isWitness", "(II)Z"⟩
abbrev cX4_mismatch : ByteArray := prog_6_method_47_code
def yX4_mismatch : MethodName := ⟨RX4, "mismatch", "(I)I"⟩
abbrev cX4_replayed : ByteArray := prog_6_method_48_code
def yX4_replayed : MethodName := ⟨RX4, "replayed", "(I)I"⟩
abbrev cX4_proves : ByteArray := prog_6_method_49_code
def yX4_proves : MethodName := ⟨RX4, "proves", "(IIII)V"⟩
abbrev cX4_exposes : ByteArray := prog_6_method_50_code
def yX4_exposes : MethodName := ⟨RX4, "exposes", "(IIII)I"⟩
abbrev cX4_judged : ByteArray := prog_6_method_51_code
def yX4_judged : MethodName := ⟨RX4, "judged", "(II)I"⟩
abbrev cX4_audit : ByteArray := prog_6_method_52_code
def yX4_audit : MethodName := ⟨RX4, "audit", "(II)I"⟩
abbrev cX4_auditAll : ByteArray := prog_6_method_53_code
def yX4_auditAll : MethodName := ⟨RX4, "auditAll", "()I"⟩
abbrev cX4_verdict : ByteArray := prog_6_method_54_code
def yX4_verdict : MethodName := ⟨RX4, "verdict", "(II)I"⟩
abbrev cX4_verdictMask : ByteArray := prog_6_method_55_code
def yX4_verdictMask : MethodName := ⟨RX4, "verdictMask", "(I)I"⟩
abbrev cX4_evidenceCount : ByteArray := prog_6_method_56_code
def yX4_evidenceCount : MethodName := ⟨RX4, "evidenceCount", "()I"⟩
abbrev cX4_evidence : ByteArray := prog_6_method_57_code
def yX4_evidence : MethodName := ⟨RX4, "evidence", "(II)I"⟩
abbrev cX4_mix : ByteArray := prog_6_method_58_code
def yX4_mix : MethodName := ⟨RX4, "mix", "(I)V"⟩
abbrev cX4_mixMachine : ByteArray := prog_6_method_59_code
def yX4_mixMachine : MethodName := ⟨RX4, "mixMachine", "(I)V"⟩
abbrev cX4_digest : ByteArray := prog_6_method_60_code
def yX4_digest : MethodName := ⟨RX4, "digest", "()J"⟩
def RL : String := "PeerAuditLaw"
abbrev cL_reset : ByteArray := method_3_code
def yL_reset : MethodName := ⟨RL, "reset", "(LPeerAudit;I[J)I"⟩
abbrev cL_input : ByteArray := method_4_code
def yL_input : MethodName := ⟨RL, "input", "(LPeerAudit;II[J)I"⟩
abbrev cL_deliver : ByteArray := method_5_code
def yL_deliver : MethodName := ⟨RL, "deliver", "(LPeerAudit;[J)I"⟩
abbrev cL_run : ByteArray := method_6_code
def yL_run : MethodName := ⟨RL, "run", "(LPeerAudit;I[J)I"⟩
abbrev cL_state : ByteArray := method_7_code
def yL_state : MethodName := ⟨RL, "state", "(LPeerAudit;I[J)I"⟩
abbrev cL_setSilent : ByteArray := method_8_code
def yL_setSilent : MethodName := ⟨RL, "setSilent", "(LPeerAudit;IZ[J)I"⟩
abbrev cL_pending : ByteArray := method_9_code
def yL_pending : MethodName := ⟨RL, "pending", "(LPeerAudit;I[J)I"⟩
abbrev cL_resend : ByteArray := method_10_code
def yL_resend : MethodName := ⟨RL, "resend", "(LPeerAudit;I[J)I"⟩
abbrev cL_lie : ByteArray := method_11_code
def yL_lie : MethodName := ⟨RL, "lie", "(LPeerAudit;I[J)I"⟩
abbrev cL_tamper : ByteArray := method_12_code
def yL_tamper : MethodName := ⟨RL, "tamper", "(LPeerAudit;III[J)I"⟩
abbrev cL_cut : ByteArray := method_13_code
def yL_cut : MethodName := ⟨RL, "cut", "(LPeerAudit;II[J)I"⟩
abbrev cL_logLength : ByteArray := method_14_code
def yL_logLength : MethodName := ⟨RL, "logLength", "(LPeerAudit;I[J)I"⟩
abbrev cL_entry : ByteArray := method_15_code
def yL_entry : MethodName := ⟨RL, "entry", "(LPeerAudit;II[J)I"⟩
abbrev cL_chain : ByteArray := method_16_code
def yL_chain : MethodName := ⟨RL, "chain", "(LPeerAudit;II[J)I"⟩
abbrev cL_held : ByteArray := method_17_code
def yL_held : MethodName := ⟨RL, "held", "(LPeerAudit;I[J)I"⟩
abbrev cL_authenticator : ByteArray := method_18_code
def yL_authenticator : MethodName := ⟨RL, "authenticator", "(LPeerAudit;III[J)I"⟩
abbrev cL_setWitnesses : ByteArray := method_19_code
def yL_setWitnesses : MethodName := ⟨RL, "setWitnesses", "(LPeerAudit;II[J)I"⟩
abbrev cL_audit : ByteArray := method_20_code
def yL_audit : MethodName := ⟨RL, "audit", "(LPeerAudit;II[J)I"⟩
abbrev cL_verdict : ByteArray := method_21_code
def yL_verdict : MethodName := ⟨RL, "verdict", "(LPeerAudit;II[J)I"⟩
abbrev cL_verdictMask : ByteArray := method_22_code
def yL_verdictMask : MethodName := ⟨RL, "verdictMask", "(LPeerAudit;I[J)I"⟩
abbrev cL_evidence : ByteArray := method_23_code
def yL_evidence : MethodName := ⟨RL, "evidence", "(LPeerAudit;II[J)I"⟩
abbrev cL_undo : ByteArray := method_24_code
def yL_undo : MethodName := ⟨RL, "undo", "(LPeerAudit;[J)I"⟩
abbrev cL_law : ByteArray := code
def yL_law : MethodName := ⟨RL, "law", "([I)Z"⟩
abbrev vwCl : List vw_C := [(RX0, TX0, 9), (RX1, TX1, 4), (RX2, TX2, 4), (RX3, TX3, 4), (RX4, TX4, 5)]
end
section
theorem dX0_init_0 : decode cX0_init 0 = .ok (.aload_n 0, 1) := by decide +kernel
theorem dX0_init_1 : decode cX0_init 1 = .ok (.invokespecial 3, 3) := by decide +kernel
theorem dX0_init_4 : decode cX0_init 4 = .ok (.aload_n 0, 1) := by decide +kernel
theorem dX0_init_5 : decode cX0_init 5 = .ok (.iload_n 1, 1) := by decide +kernel
theorem dX0_init_6 : decode cX0_init 6 = .ok (.putfield 9, 3) := by decide +kernel
theorem dX0_init_9 : decode cX0_init 9 = .ok (.aload_n 0, 1) := by decide +kernel
theorem dX0_init_10 : decode cX0_init 10 = .ok (.bipush 6, 2) := by decide +kernel
theorem dX0_init_12 : decode cX0_init 12 = .ok (.newarray .int, 2) := by decide +kernel
theorem dX0_init_14 : decode cX0_init 14 = .ok (.putfield 15, 3) := by decide +kernel
theorem dX0_init_17 : decode cX0_init 17 = .ok (.aload_n 0, 1) := by decide +kernel
theorem dX0_init_18 : decode cX0_init 18 = .ok (.new 19, 3) := by decide +kernel
theorem dX0_init_21 : decode cX0_init 21 = .ok (.dup, 1) := by decide +kernel
theorem dX0_init_22 : decode cX0_init 22 = .ok (.iconst 4, 1) := by decide +kernel
theorem dX0_init_23 : decode cX0_init 23 = .ok (.bipush 40, 2) := by decide +kernel
theorem dX0_init_25 : decode cX0_init 25 = .ok (.invokespecial 21, 3) := by decide +kernel
theorem dX0_init_28 : decode cX0_init 28 = .ok (.putfield 24, 3) := by decide +kernel
theorem dX0_init_31 : decode cX0_init 31 = .ok (.aload_n 0, 1) := by decide +kernel
theorem dX0_init_32 : decode cX0_init 32 = .ok (.new 19, 3) := by decide +kernel
theorem dX0_init_35 : decode cX0_init 35 = .ok (.dup, 1) := by decide +kernel
theorem dX0_init_36 : decode cX0_init 36 = .ok (.iconst 3, 1) := by decide +kernel
theorem dX0_init_37 : decode cX0_init 37 = .ok (.bipush 60, 2) := by decide +kernel
theorem dX0_init_39 : decode cX0_init 39 = .ok (.invokespecial 21, 3) := by decide +kernel
theorem dX0_init_42 : decode cX0_init 42 = .ok (.putfield 28, 3) := by decide +kernel
theorem dX0_init_45 : decode cX0_init 45 = .ok (.aload_n 0, 1) := by decide +kernel
theorem dX0_init_46 : decode cX0_init 46 = .ok (.new 19, 3) := by decide +kernel
theorem dX0_init_49 : decode cX0_init 49 = .ok (.dup, 1) := by decide +kernel
theorem dX0_init_50 : decode cX0_init 50 = .ok (.iconst 5, 1) := by decide +kernel
theorem dX0_init_51 : decode cX0_init 51 = .ok (.bipush 40, 2) := by decide +kernel
theorem dX0_init_53 : decode cX0_init 53 = .ok (.invokespecial 21, 3) := by decide +kernel
theorem dX0_init_56 : decode cX0_init 56 = .ok (.putfield 31, 3) := by decide +kernel
theorem dX0_init_59 : decode cX0_init 59 = .ok (.return_, 1) := by decide +kernel
theorem dX0_start_0 : decode cX0_start 0 = .ok (.aload_n 0, 1) := by decide +kernel
theorem dX0_start_1 : decode cX0_start 1 = .ok (.aload_n 0, 1) := by decide +kernel
theorem dX0_start_2 : decode cX0_start 2 = .ok (.getfield 9, 3) := by decide +kernel
theorem dX0_start_5 : decode cX0_start 5 = .ok (.putfield 34, 3) := by decide +kernel
theorem dX0_start_8 : decode cX0_start 8 = .ok (.aload_n 0, 1) := by decide +kernel
theorem dX0_start_9 : decode cX0_start 9 = .ok (.iconst 0, 1) := by decide +kernel
theorem dX0_start_10 : decode cX0_start 10 = .ok (.putfield 37, 3) := by decide +kernel
theorem dX0_start_13 : decode cX0_start 13 = .ok (.aload_n 0, 1) := by decide +kernel
theorem dX0_start_14 : decode cX0_start 14 = .ok (.iconst 0, 1) := by decide +kernel
theorem dX0_start_15 : decode cX0_start 15 = .ok (.putfield 41, 3) := by decide +kernel
theorem dX0_start_18 : decode cX0_start 18 = .ok (.aload_n 0, 1) := by decide +kernel
theorem dX0_start_19 : decode cX0_start 19 = .ok (.aload_n 0, 1) := by decide +kernel
theorem dX0_start_20 : decode cX0_start 20 = .ok (.getfield 9, 3) := by decide +kernel
theorem dX0_start_23 : decode cX0_start 23 = .ok (.iload_n 1, 1) := by decide +kernel
theorem dX0_start_24 : decode cX0_start 24 = .ok (.invokestatic 44, 3) := by decide +kernel
theorem dX0_start_27 : decode cX0_start 27 = .ok (.putfield 48, 3) := by decide +kernel
theorem dX0_start_30 : decode cX0_start 30 = .ok (.iconst 0, 1) := by decide +kernel
theorem dX0_start_31 : decode cX0_start 31 = .ok (.istore_n 2, 1) := by decide +kernel
theorem dX0_start_32 : decode cX0_start 32 = .ok (.iload_n 2, 1) := by decide +kernel
theorem dX0_start_33 : decode cX0_start 33 = .ok (.bipush 6, 2) := by decide +kernel
theorem dX0_start_35 : decode cX0_start 35 = .ok (.if_icmp .ge 16, 3) := by decide +kernel
theorem dX0_start_38 : decode cX0_start 38 = .ok (.aload_n 0, 1) := by decide +kernel
theorem dX0_start_39 : decode cX0_start 39 = .ok (.getfield 15, 3) := by decide +kernel
theorem dX0_start_42 : decode cX0_start 42 = .ok (.iload_n 2, 1) := by decide +kernel
theorem dX0_start_43 : decode cX0_start 43 = .ok (.iconst 0, 1) := by decide +kernel
theorem dX0_start_44 : decode cX0_start 44 = .ok (.iastore, 1) := by decide +kernel
theorem dX0_start_45 : decode cX0_start 45 = .ok (.iinc 2 1, 3) := by decide +kernel
theorem dX0_start_48 : decode cX0_start 48 = .ok (.goto (-16), 3) := by decide +kernel
theorem dX0_start_51 : decode cX0_start 51 = .ok (.aload_n 0, 1) := by decide +kernel
theorem dX0_start_52 : decode cX0_start 52 = .ok (.getfield 24, 3) := by decide +kernel
theorem dX0_start_55 : decode cX0_start 55 = .ok (.iconst 0, 1) := by decide +kernel
theorem dX0_start_56 : decode cX0_start 56 = .ok (.invokevirtual 51, 3) := by decide +kernel
theorem dX0_start_59 : decode cX0_start 59 = .ok (.aload_n 0, 1) := by decide +kernel
theorem dX0_start_60 : decode cX0_start 60 = .ok (.getfield 28, 3) := by decide +kernel
theorem dX0_start_63 : decode cX0_start 63 = .ok (.iconst 0, 1) := by decide +kernel
theorem dX0_start_64 : decode cX0_start 64 = .ok (.invokevirtual 51, 3) := by decide +kernel
theorem dX0_start_67 : decode cX0_start 67 = .ok (.aload_n 0, 1) := by decide +kernel
theorem dX0_start_68 : decode cX0_start 68 = .ok (.getfield 31, 3) := by decide +kernel
theorem dX0_start_71 : decode cX0_start 71 = .ok (.iconst 0, 1) := by decide +kernel
theorem dX0_start_72 : decode cX0_start 72 = .ok (.invokevirtual 51, 3) := by decide +kernel
theorem dX0_start_75 : decode cX0_start 75 = .ok (.return_, 1) := by decide +kernel
theorem dX0_copyMachine_0 : decode cX0_copyMachine 0 = .ok (.aload_n 0, 1) := by decide +kernel
theorem dX0_copyMachine_1 : decode cX0_copyMachine 1 = .ok (.aload_n 1, 1) := by decide +kernel
theorem dX0_copyMachine_2 : decode cX0_copyMachine 2 = .ok (.getfield 34, 3) := by decide +kernel
theorem dX0_copyMachine_5 : decode cX0_copyMachine 5 = .ok (.putfield 34, 3) := by decide +kernel
theorem dX0_copyMachine_8 : decode cX0_copyMachine 8 = .ok (.aload_n 0, 1) := by decide +kernel
theorem dX0_copyMachine_9 : decode cX0_copyMachine 9 = .ok (.aload_n 1, 1) := by decide +kernel
theorem dX0_copyMachine_10 : decode cX0_copyMachine 10 = .ok (.getfield 37, 3) := by decide +kernel
theorem dX0_copyMachine_13 : decode cX0_copyMachine 13 = .ok (.putfield 37, 3) := by decide +kernel
theorem dX0_copyMachine_16 : decode cX0_copyMachine 16 = .ok (.aload_n 0, 1) := by decide +kernel
theorem dX0_copyMachine_17 : decode cX0_copyMachine 17 = .ok (.aload_n 1, 1) := by decide +kernel
theorem dX0_copyMachine_18 : decode cX0_copyMachine 18 = .ok (.getfield 41, 3) := by decide +kernel
theorem dX0_copyMachine_21 : decode cX0_copyMachine 21 = .ok (.putfield 41, 3) := by decide +kernel
theorem dX0_copyMachine_24 : decode cX0_copyMachine 24 = .ok (.aload_n 0, 1) := by decide +kernel
theorem dX0_copyMachine_25 : decode cX0_copyMachine 25 = .ok (.aload_n 1, 1) := by decide +kernel
theorem dX0_copyMachine_26 : decode cX0_copyMachine 26 = .ok (.getfield 48, 3) := by decide +kernel
theorem dX0_copyMachine_29 : decode cX0_copyMachine 29 = .ok (.putfield 48, 3) := by decide +kernel
theorem dX0_copyMachine_32 : decode cX0_copyMachine 32 = .ok (.aload_n 1, 1) := by decide +kernel
theorem dX0_copyMachine_33 : decode cX0_copyMachine 33 = .ok (.getfield 15, 3) := by decide +kernel
theorem dX0_copyMachine_36 : decode cX0_copyMachine 36 = .ok (.iconst 0, 1) := by decide +kernel
theorem dX0_copyMachine_37 : decode cX0_copyMachine 37 = .ok (.aload_n 0, 1) := by decide +kernel
theorem dX0_copyMachine_38 : decode cX0_copyMachine 38 = .ok (.getfield 15, 3) := by decide +kernel
theorem dX0_copyMachine_41 : decode cX0_copyMachine 41 = .ok (.iconst 0, 1) := by decide +kernel
theorem dX0_copyMachine_42 : decode cX0_copyMachine 42 = .ok (.bipush 6, 2) := by decide +kernel
theorem dX0_copyMachine_44 : decode cX0_copyMachine 44 = .ok (.invokestatic 55, 3) := by decide +kernel
theorem dX0_copyMachine_47 : decode cX0_copyMachine 47 = .ok (.aload_n 0, 1) := by decide +kernel
theorem dX0_copyMachine_48 : decode cX0_copyMachine 48 = .ok (.getfield 24, 3) := by decide +kernel
theorem dX0_copyMachine_51 : decode cX0_copyMachine 51 = .ok (.aload_n 1, 1) := by decide +kernel
theorem dX0_copyMachine_52 : decode cX0_copyMachine 52 = .ok (.getfield 24, 3) := by decide +kernel
theorem dX0_copyMachine_55 : decode cX0_copyMachine 55 = .ok (.invokevirtual 61, 3) := by decide +kernel
theorem dX0_copyMachine_58 : decode cX0_copyMachine 58 = .ok (.aload_n 0, 1) := by decide +kernel
theorem dX0_copyMachine_59 : decode cX0_copyMachine 59 = .ok (.getfield 28, 3) := by decide +kernel
theorem dX0_copyMachine_62 : decode cX0_copyMachine 62 = .ok (.aload_n 1, 1) := by decide +kernel
theorem dX0_copyMachine_63 : decode cX0_copyMachine 63 = .ok (.getfield 28, 3) := by decide +kernel
theorem dX0_copyMachine_66 : decode cX0_copyMachine 66 = .ok (.invokevirtual 61, 3) := by decide +kernel
theorem dX0_copyMachine_69 : decode cX0_copyMachine 69 = .ok (.aload_n 0, 1) := by decide +kernel
theorem dX0_copyMachine_70 : decode cX0_copyMachine 70 = .ok (.getfield 31, 3) := by decide +kernel
theorem dX0_copyMachine_73 : decode cX0_copyMachine 73 = .ok (.aload_n 1, 1) := by decide +kernel
theorem dX0_copyMachine_74 : decode cX0_copyMachine 74 = .ok (.getfield 31, 3) := by decide +kernel
theorem dX0_copyMachine_77 : decode cX0_copyMachine 77 = .ok (.invokevirtual 61, 3) := by decide +kernel
theorem dX0_copyMachine_80 : decode cX0_copyMachine 80 = .ok (.return_, 1) := by decide +kernel
theorem dX0_hasRoom_0 : decode cX0_hasRoom 0 = .ok (.aload_n 0, 1) := by decide +kernel
theorem dX0_hasRoom_1 : decode cX0_hasRoom 1 = .ok (.getfield 24, 3) := by decide +kernel
theorem dX0_hasRoom_4 : decode cX0_hasRoom 4 = .ok (.getfield 65, 3) := by decide +kernel
theorem dX0_hasRoom_7 : decode cX0_hasRoom 7 = .ok (.bipush 38, 2) := by decide +kernel
theorem dX0_hasRoom_9 : decode cX0_hasRoom 9 = .ok (.if_icmp .gt 13, 3) := by decide +kernel
theorem dX0_hasRoom_12 : decode cX0_hasRoom 12 = .ok (.iload_n 1, 1) := by decide +kernel
theorem dX0_hasRoom_13 : decode cX0_hasRoom 13 = .ok (.bipush 39, 2) := by decide +kernel
theorem dX0_hasRoom_15 : decode cX0_hasRoom 15 = .ok (.if_icmp .gt 7, 3) := by decide +kernel
theorem dX0_hasRoom_18 : decode cX0_hasRoom 18 = .ok (.iconst 1, 1) := by decide +kernel
theorem dX0_hasRoom_19 : decode cX0_hasRoom 19 = .ok (.goto 4, 3) := by decide +kernel
theorem dX0_hasRoom_22 : decode cX0_hasRoom 22 = .ok (.iconst 0, 1) := by decide +kernel
theorem dX0_hasRoom_23 : decode cX0_hasRoom 23 = .ok (.ireturn, 1) := by decide +kernel
theorem dX0_hasWitness_0 : decode cX0_hasWitness 0 = .ok (.aload_n 0, 1) := by decide +kernel
theorem dX0_hasWitness_1 : decode cX0_hasWitness 1 = .ok (.getfield 48, 3) := by decide +kernel
theorem dX0_hasWitness_4 : decode cX0_hasWitness 4 = .ok (.iconst 1, 1) := by decide +kernel
theorem dX0_hasWitness_5 : decode cX0_hasWitness 5 = .ok (.iload_n 1, 1) := by decide +kernel
theorem dX0_hasWitness_6 : decode cX0_hasWitness 6 = .ok (.ishl, 1) := by decide +kernel
theorem dX0_hasWitness_7 : decode cX0_hasWitness 7 = .ok (.iand, 1) := by decide +kernel
theorem dX0_hasWitness_8 : decode cX0_hasWitness 8 = .ok (.ifCond .eq 7, 3) := by decide +kernel
theorem dX0_hasWitness_11 : decode cX0_hasWitness 11 = .ok (.iconst 1, 1) := by decide +kernel
theorem dX0_hasWitness_12 : decode cX0_hasWitness 12 = .ok (.goto 4, 3) := by decide +kernel
theorem dX0_hasWitness_15 : decode cX0_hasWitness 15 = .ok (.iconst 0, 1) := by decide +kernel
theorem dX0_hasWitness_16 : decode cX0_hasWitness 16 = .ok (.ireturn, 1) := by decide +kernel
theorem dX0_chainAt_0 : decode cX0_chainAt 0 = .ok (.iload_n 1, 1) := by decide +kernel
theorem dX0_chainAt_1 : decode cX0_chainAt 1 = .ok (.ifCond .ne 7, 3) := by decide +kernel
theorem dX0_chainAt_4 : decode cX0_chainAt 4 = .ok (.iconst 1, 1) := by decide +kernel
theorem dX0_chainAt_5 : decode cX0_chainAt 5 = .ok (.goto 14, 3) := by decide +kernel
theorem dX0_chainAt_8 : decode cX0_chainAt 8 = .ok (.aload_n 0, 1) := by decide +kernel
theorem dX0_chainAt_9 : decode cX0_chainAt 9 = .ok (.getfield 24, 3) := by decide +kernel
theorem dX0_chainAt_12 : decode cX0_chainAt 12 = .ok (.iload_n 1, 1) := by decide +kernel
theorem dX0_chainAt_13 : decode cX0_chainAt 13 = .ok (.iconst 1, 1) := by decide +kernel
theorem dX0_chainAt_14 : decode cX0_chainAt 14 = .ok (.isub, 1) := by decide +kernel
theorem dX0_chainAt_15 : decode cX0_chainAt 15 = .ok (.iconst 3, 1) := by decide +kernel
theorem dX0_chainAt_16 : decode cX0_chainAt 16 = .ok (.invokevirtual 68, 3) := by decide +kernel
theorem dX0_chainAt_19 : decode cX0_chainAt 19 = .ok (.ireturn, 1) := by decide +kernel
theorem dX0_packedEntry_0 : decode cX0_packedEntry 0 = .ok (.ldc 71, 2) := by decide +kernel
theorem dX0_packedEntry_2 : decode cX0_packedEntry 2 = .ok (.aload_n 0, 1) := by decide +kernel
theorem dX0_packedEntry_3 : decode cX0_packedEntry 3 = .ok (.getfield 24, 3) := by decide +kernel
theorem dX0_packedEntry_6 : decode cX0_packedEntry 6 = .ok (.iload_n 1, 1) := by decide +kernel
theorem dX0_packedEntry_7 : decode cX0_packedEntry 7 = .ok (.iconst 0, 1) := by decide +kernel
theorem dX0_packedEntry_8 : decode cX0_packedEntry 8 = .ok (.invokevirtual 68, 3) := by decide +kernel
theorem dX0_packedEntry_11 : decode cX0_packedEntry 11 = .ok (.imul, 1) := by decide +kernel
theorem dX0_packedEntry_12 : decode cX0_packedEntry 12 = .ok (.sipush 10000, 3) := by decide +kernel
theorem dX0_packedEntry_15 : decode cX0_packedEntry 15 = .ok (.aload_n 0, 1) := by decide +kernel
theorem dX0_packedEntry_16 : decode cX0_packedEntry 16 = .ok (.getfield 24, 3) := by decide +kernel
theorem dX0_packedEntry_19 : decode cX0_packedEntry 19 = .ok (.iload_n 1, 1) := by decide +kernel
theorem dX0_packedEntry_20 : decode cX0_packedEntry 20 = .ok (.iconst 1, 1) := by decide +kernel
theorem dX0_packedEntry_21 : decode cX0_packedEntry 21 = .ok (.invokevirtual 68, 3) := by decide +kernel
theorem dX0_packedEntry_24 : decode cX0_packedEntry 24 = .ok (.iconst 1, 1) := by decide +kernel
theorem dX0_packedEntry_25 : decode cX0_packedEntry 25 = .ok (.iadd, 1) := by decide +kernel
theorem dX0_packedEntry_26 : decode cX0_packedEntry 26 = .ok (.imul, 1) := by decide +kernel
theorem dX0_packedEntry_27 : decode cX0_packedEntry 27 = .ok (.iadd, 1) := by decide +kernel
theorem dX0_packedEntry_28 : decode cX0_packedEntry 28 = .ok (.aload_n 0, 1) := by decide +kernel
theorem dX0_packedEntry_29 : decode cX0_packedEntry 29 = .ok (.getfield 24, 3) := by decide +kernel
theorem dX0_packedEntry_32 : decode cX0_packedEntry 32 = .ok (.iload_n 1, 1) := by decide +kernel
theorem dX0_packedEntry_33 : decode cX0_packedEntry 33 = .ok (.iconst 2, 1) := by decide +kernel
theorem dX0_packedEntry_34 : decode cX0_packedEntry 34 = .ok (.invokevirtual 68, 3) := by decide +kernel
theorem dX0_packedEntry_37 : decode cX0_packedEntry 37 = .ok (.iadd, 1) := by decide +kernel
theorem dX0_packedEntry_38 : decode cX0_packedEntry 38 = .ok (.ireturn, 1) := by decide +kernel
theorem dX0_append_0 : decode cX0_append 0 = .ok (.aload_n 0, 1) := by decide +kernel
theorem dX0_append_1 : decode cX0_append 1 = .ok (.getfield 24, 3) := by decide +kernel
theorem dX0_append_4 : decode cX0_append 4 = .ok (.invokevirtual 72, 3) := by decide +kernel
theorem dX0_append_7 : decode cX0_append 7 = .ok (.istore 4, 2) := by decide +kernel
theorem dX0_append_9 : decode cX0_append 9 = .ok (.aload_n 0, 1) := by decide +kernel
theorem dX0_append_10 : decode cX0_append 10 = .ok (.getfield 24, 3) := by decide +kernel
theorem dX0_append_13 : decode cX0_append 13 = .ok (.iload 4, 2) := by decide +kernel
theorem dX0_append_15 : decode cX0_append 15 = .ok (.iconst 0, 1) := by decide +kernel
theorem dX0_append_16 : decode cX0_append 16 = .ok (.iload_n 1, 1) := by decide +kernel
theorem dX0_append_17 : decode cX0_append 17 = .ok (.invokevirtual 76, 3) := by decide +kernel
theorem dX0_append_20 : decode cX0_append 20 = .ok (.aload_n 0, 1) := by decide +kernel
theorem dX0_append_21 : decode cX0_append 21 = .ok (.getfield 24, 3) := by decide +kernel
theorem dX0_append_24 : decode cX0_append 24 = .ok (.iload 4, 2) := by decide +kernel
theorem dX0_append_26 : decode cX0_append 26 = .ok (.iconst 1, 1) := by decide +kernel
theorem dX0_append_27 : decode cX0_append 27 = .ok (.iload_n 2, 1) := by decide +kernel
theorem dX0_append_28 : decode cX0_append 28 = .ok (.invokevirtual 76, 3) := by decide +kernel
theorem dX0_append_31 : decode cX0_append 31 = .ok (.aload_n 0, 1) := by decide +kernel
theorem dX0_append_32 : decode cX0_append 32 = .ok (.getfield 24, 3) := by decide +kernel
theorem dX0_append_35 : decode cX0_append 35 = .ok (.iload 4, 2) := by decide +kernel
theorem dX0_append_37 : decode cX0_append 37 = .ok (.iconst 2, 1) := by decide +kernel
theorem dX0_append_38 : decode cX0_append 38 = .ok (.iload_n 3, 1) := by decide +kernel
theorem dX0_append_39 : decode cX0_append 39 = .ok (.invokevirtual 76, 3) := by decide +kernel
theorem dX0_append_42 : decode cX0_append 42 = .ok (.aload_n 0, 1) := by decide +kernel
theorem dX0_append_43 : decode cX0_append 43 = .ok (.getfield 24, 3) := by decide +kernel
theorem dX0_append_46 : decode cX0_append 46 = .ok (.iload 4, 2) := by decide +kernel
theorem dX0_append_48 : decode cX0_append 48 = .ok (.iconst 3, 1) := by decide +kernel
theorem dX0_append_49 : decode cX0_append 49 = .ok (.aload_n 0, 1) := by decide +kernel
theorem dX0_append_50 : decode cX0_append 50 = .ok (.iload 4, 2) := by decide +kernel
theorem dX0_append_52 : decode cX0_append 52 = .ok (.invokevirtual 80, 3) := by decide +kernel
theorem dX0_append_55 : decode cX0_append 55 = .ok (.iload_n 1, 1) := by decide +kernel
theorem dX0_append_56 : decode cX0_append 56 = .ok (.iload_n 2, 1) := by decide +kernel
theorem dX0_append_57 : decode cX0_append 57 = .ok (.iload_n 3, 1) := by decide +kernel
theorem dX0_append_58 : decode cX0_append 58 = .ok (.invokestatic 84, 3) := by decide +kernel
theorem dX0_append_61 : decode cX0_append 61 = .ok (.invokevirtual 76, 3) := by decide +kernel
theorem dX0_append_64 : decode cX0_append 64 = .ok (.return_, 1) := by decide +kernel
theorem dX0_rechain_0 : decode cX0_rechain 0 = .ok (.iload_n 1, 1) := by decide +kernel
theorem dX0_rechain_1 : decode cX0_rechain 1 = .ok (.istore_n 2, 1) := by decide +kernel
theorem dX0_rechain_2 : decode cX0_rechain 2 = .ok (.iload_n 2, 1) := by decide +kernel
theorem dX0_rechain_3 : decode cX0_rechain 3 = .ok (.aload_n 0, 1) := by decide +kernel
theorem dX0_rechain_4 : decode cX0_rechain 4 = .ok (.getfield 24, 3) := by decide +kernel
theorem dX0_rechain_7 : decode cX0_rechain 7 = .ok (.getfield 65, 3) := by decide +kernel
theorem dX0_rechain_10 : decode cX0_rechain 10 = .ok (.if_icmp .ge 55, 3) := by decide +kernel
theorem dX0_rechain_13 : decode cX0_rechain 13 = .ok (.aload_n 0, 1) := by decide +kernel
theorem dX0_rechain_14 : decode cX0_rechain 14 = .ok (.iload_n 2, 1) := by decide +kernel
theorem dX0_rechain_15 : decode cX0_rechain 15 = .ok (.invokevirtual 80, 3) := by decide +kernel
theorem dX0_rechain_18 : decode cX0_rechain 18 = .ok (.aload_n 0, 1) := by decide +kernel
theorem dX0_rechain_19 : decode cX0_rechain 19 = .ok (.getfield 24, 3) := by decide +kernel
theorem dX0_rechain_22 : decode cX0_rechain 22 = .ok (.iload_n 2, 1) := by decide +kernel
theorem dX0_rechain_23 : decode cX0_rechain 23 = .ok (.iconst 0, 1) := by decide +kernel
theorem dX0_rechain_24 : decode cX0_rechain 24 = .ok (.invokevirtual 68, 3) := by decide +kernel
theorem dX0_rechain_27 : decode cX0_rechain 27 = .ok (.aload_n 0, 1) := by decide +kernel
theorem dX0_rechain_28 : decode cX0_rechain 28 = .ok (.getfield 24, 3) := by decide +kernel
theorem dX0_rechain_31 : decode cX0_rechain 31 = .ok (.iload_n 2, 1) := by decide +kernel
theorem dX0_rechain_32 : decode cX0_rechain 32 = .ok (.iconst 1, 1) := by decide +kernel
theorem dX0_rechain_33 : decode cX0_rechain 33 = .ok (.invokevirtual 68, 3) := by decide +kernel
theorem dX0_rechain_36 : decode cX0_rechain 36 = .ok (.aload_n 0, 1) := by decide +kernel
theorem dX0_rechain_37 : decode cX0_rechain 37 = .ok (.getfield 24, 3) := by decide +kernel
theorem dX0_rechain_40 : decode cX0_rechain 40 = .ok (.iload_n 2, 1) := by decide +kernel
theorem dX0_rechain_41 : decode cX0_rechain 41 = .ok (.iconst 2, 1) := by decide +kernel
theorem dX0_rechain_42 : decode cX0_rechain 42 = .ok (.invokevirtual 68, 3) := by decide +kernel
theorem dX0_rechain_45 : decode cX0_rechain 45 = .ok (.invokestatic 84, 3) := by decide +kernel
theorem dX0_rechain_48 : decode cX0_rechain 48 = .ok (.istore_n 3, 1) := by decide +kernel
theorem dX0_rechain_49 : decode cX0_rechain 49 = .ok (.aload_n 0, 1) := by decide +kernel
theorem dX0_rechain_50 : decode cX0_rechain 50 = .ok (.getfield 24, 3) := by decide +kernel
theorem dX0_rechain_53 : decode cX0_rechain 53 = .ok (.iload_n 2, 1) := by decide +kernel
theorem dX0_rechain_54 : decode cX0_rechain 54 = .ok (.iconst 3, 1) := by decide +kernel
theorem dX0_rechain_55 : decode cX0_rechain 55 = .ok (.iload_n 3, 1) := by decide +kernel
theorem dX0_rechain_56 : decode cX0_rechain 56 = .ok (.invokevirtual 76, 3) := by decide +kernel
theorem dX0_rechain_59 : decode cX0_rechain 59 = .ok (.iinc 2 1, 3) := by decide +kernel
theorem dX0_rechain_62 : decode cX0_rechain 62 = .ok (.goto (-60), 3) := by decide +kernel
theorem dX0_rechain_65 : decode cX0_rechain 65 = .ok (.return_, 1) := by decide +kernel
theorem dX0_hold_0 : decode cX0_hold 0 = .ok (.aload_n 0, 1) := by decide +kernel
theorem dX0_hold_1 : decode cX0_hold 1 = .ok (.getfield 28, 3) := by decide +kernel
theorem dX0_hold_4 : decode cX0_hold 4 = .ok (.getfield 65, 3) := by decide +kernel
theorem dX0_hold_7 : decode cX0_hold 7 = .ok (.bipush 60, 2) := by decide +kernel
theorem dX0_hold_9 : decode cX0_hold 9 = .ok (.if_icmp .lt 10, 3) := by decide +kernel
theorem dX0_hold_12 : decode cX0_hold 12 = .ok (.aload_n 0, 1) := by decide +kernel
theorem dX0_hold_13 : decode cX0_hold 13 = .ok (.getfield 28, 3) := by decide +kernel
theorem dX0_hold_16 : decode cX0_hold 16 = .ok (.invokevirtual 88, 3) := by decide +kernel
theorem dX0_hold_19 : decode cX0_hold 19 = .ok (.aload_n 0, 1) := by decide +kernel
theorem dX0_hold_20 : decode cX0_hold 20 = .ok (.getfield 28, 3) := by decide +kernel
theorem dX0_hold_23 : decode cX0_hold 23 = .ok (.invokevirtual 72, 3) := by decide +kernel
theorem dX0_hold_26 : decode cX0_hold 26 = .ok (.istore 4, 2) := by decide +kernel
theorem dX0_hold_28 : decode cX0_hold 28 = .ok (.aload_n 0, 1) := by decide +kernel
theorem dX0_hold_29 : decode cX0_hold 29 = .ok (.getfield 28, 3) := by decide +kernel
theorem dX0_hold_32 : decode cX0_hold 32 = .ok (.iload 4, 2) := by decide +kernel
theorem dX0_hold_34 : decode cX0_hold 34 = .ok (.iconst 0, 1) := by decide +kernel
theorem dX0_hold_35 : decode cX0_hold 35 = .ok (.iload_n 1, 1) := by decide +kernel
theorem dX0_hold_36 : decode cX0_hold 36 = .ok (.invokevirtual 76, 3) := by decide +kernel
theorem dX0_hold_39 : decode cX0_hold 39 = .ok (.aload_n 0, 1) := by decide +kernel
theorem dX0_hold_40 : decode cX0_hold 40 = .ok (.getfield 28, 3) := by decide +kernel
theorem dX0_hold_43 : decode cX0_hold 43 = .ok (.iload 4, 2) := by decide +kernel
theorem dX0_hold_45 : decode cX0_hold 45 = .ok (.iconst 1, 1) := by decide +kernel
theorem dX0_hold_46 : decode cX0_hold 46 = .ok (.iload_n 2, 1) := by decide +kernel
theorem dX0_hold_47 : decode cX0_hold 47 = .ok (.invokevirtual 76, 3) := by decide +kernel
theorem dX0_hold_50 : decode cX0_hold 50 = .ok (.aload_n 0, 1) := by decide +kernel
theorem dX0_hold_51 : decode cX0_hold 51 = .ok (.getfield 28, 3) := by decide +kernel
theorem dX0_hold_54 : decode cX0_hold 54 = .ok (.iload 4, 2) := by decide +kernel
theorem dX0_hold_56 : decode cX0_hold 56 = .ok (.iconst 2, 1) := by decide +kernel
theorem dX0_hold_57 : decode cX0_hold 57 = .ok (.iload_n 3, 1) := by decide +kernel
theorem dX0_hold_58 : decode cX0_hold 58 = .ok (.invokevirtual 76, 3) := by decide +kernel
theorem dX0_hold_61 : decode cX0_hold 61 = .ok (.return_, 1) := by decide +kernel
theorem dX0_beliedEntryOf_0 : decode cX0_beliedEntryOf 0 = .ok (.iconst 0, 1) := by decide +kernel
theorem dX0_beliedEntryOf_1 : decode cX0_beliedEntryOf 1 = .ok (.istore_n 2, 1) := by decide +kernel
theorem dX0_beliedEntryOf_2 : decode cX0_beliedEntryOf 2 = .ok (.iload_n 2, 1) := by decide +kernel
theorem dX0_beliedEntryOf_3 : decode cX0_beliedEntryOf 3 = .ok (.aload_n 0, 1) := by decide +kernel
theorem dX0_beliedEntryOf_4 : decode cX0_beliedEntryOf 4 = .ok (.getfield 28, 3) := by decide +kernel
theorem dX0_beliedEntryOf_7 : decode cX0_beliedEntryOf 7 = .ok (.getfield 65, 3) := by decide +kernel
theorem dX0_beliedEntryOf_10 : decode cX0_beliedEntryOf 10 = .ok (.if_icmp .ge 67, 3) := by decide +kernel
theorem dX0_beliedEntryOf_13 : decode cX0_beliedEntryOf 13 = .ok (.aload_n 0, 1) := by decide +kernel
theorem dX0_beliedEntryOf_14 : decode cX0_beliedEntryOf 14 = .ok (.getfield 28, 3) := by decide +kernel
theorem dX0_beliedEntryOf_17 : decode cX0_beliedEntryOf 17 = .ok (.iload_n 2, 1) := by decide +kernel
theorem dX0_beliedEntryOf_18 : decode cX0_beliedEntryOf 18 = .ok (.iconst 0, 1) := by decide +kernel
theorem dX0_beliedEntryOf_19 : decode cX0_beliedEntryOf 19 = .ok (.invokevirtual 68, 3) := by decide +kernel
theorem dX0_beliedEntryOf_22 : decode cX0_beliedEntryOf 22 = .ok (.aload_n 1, 1) := by decide +kernel
theorem dX0_beliedEntryOf_23 : decode cX0_beliedEntryOf 23 = .ok (.getfield 9, 3) := by decide +kernel
theorem dX0_beliedEntryOf_26 : decode cX0_beliedEntryOf 26 = .ok (.if_icmp .ne 45, 3) := by decide +kernel
theorem dX0_beliedEntryOf_29 : decode cX0_beliedEntryOf 29 = .ok (.aload_n 0, 1) := by decide +kernel
theorem dX0_beliedEntryOf_30 : decode cX0_beliedEntryOf 30 = .ok (.getfield 28, 3) := by decide +kernel
theorem dX0_beliedEntryOf_33 : decode cX0_beliedEntryOf 33 = .ok (.iload_n 2, 1) := by decide +kernel
theorem dX0_beliedEntryOf_34 : decode cX0_beliedEntryOf 34 = .ok (.iconst 1, 1) := by decide +kernel
theorem dX0_beliedEntryOf_35 : decode cX0_beliedEntryOf 35 = .ok (.invokevirtual 68, 3) := by decide +kernel
theorem dX0_beliedEntryOf_38 : decode cX0_beliedEntryOf 38 = .ok (.istore_n 3, 1) := by decide +kernel
theorem dX0_beliedEntryOf_39 : decode cX0_beliedEntryOf 39 = .ok (.iload_n 3, 1) := by decide +kernel
theorem dX0_beliedEntryOf_40 : decode cX0_beliedEntryOf 40 = .ok (.aload_n 1, 1) := by decide +kernel
theorem dX0_beliedEntryOf_41 : decode cX0_beliedEntryOf 41 = .ok (.getfield 24, 3) := by decide +kernel
theorem dX0_beliedEntryOf_44 : decode cX0_beliedEntryOf 44 = .ok (.getfield 65, 3) := by decide +kernel
theorem dX0_beliedEntryOf_47 : decode cX0_beliedEntryOf 47 = .ok (.if_icmp .ge 22, 3) := by decide +kernel
theorem dX0_beliedEntryOf_50 : decode cX0_beliedEntryOf 50 = .ok (.aload_n 1, 1) := by decide +kernel
theorem dX0_beliedEntryOf_51 : decode cX0_beliedEntryOf 51 = .ok (.iload_n 3, 1) := by decide +kernel
theorem dX0_beliedEntryOf_52 : decode cX0_beliedEntryOf 52 = .ok (.iconst 1, 1) := by decide +kernel
theorem dX0_beliedEntryOf_53 : decode cX0_beliedEntryOf 53 = .ok (.iadd, 1) := by decide +kernel
theorem dX0_beliedEntryOf_54 : decode cX0_beliedEntryOf 54 = .ok (.invokevirtual 80, 3) := by decide +kernel
theorem dX0_beliedEntryOf_57 : decode cX0_beliedEntryOf 57 = .ok (.aload_n 0, 1) := by decide +kernel
theorem dX0_beliedEntryOf_58 : decode cX0_beliedEntryOf 58 = .ok (.getfield 28, 3) := by decide +kernel
theorem dX0_beliedEntryOf_61 : decode cX0_beliedEntryOf 61 = .ok (.iload_n 2, 1) := by decide +kernel
theorem dX0_beliedEntryOf_62 : decode cX0_beliedEntryOf 62 = .ok (.iconst 2, 1) := by decide +kernel
theorem dX0_beliedEntryOf_63 : decode cX0_beliedEntryOf 63 = .ok (.invokevirtual 68, 3) := by decide +kernel
theorem dX0_beliedEntryOf_66 : decode cX0_beliedEntryOf 66 = .ok (.if_icmp .eq 5, 3) := by decide +kernel
theorem dX0_beliedEntryOf_69 : decode cX0_beliedEntryOf 69 = .ok (.iload_n 3, 1) := by decide +kernel
theorem dX0_beliedEntryOf_70 : decode cX0_beliedEntryOf 70 = .ok (.ireturn, 1) := by decide +kernel
theorem dX0_beliedEntryOf_71 : decode cX0_beliedEntryOf 71 = .ok (.iinc 2 1, 3) := by decide +kernel
theorem dX0_beliedEntryOf_74 : decode cX0_beliedEntryOf 74 = .ok (.goto (-72), 3) := by decide +kernel
theorem dX0_beliedEntryOf_77 : decode cX0_beliedEntryOf 77 = .ok (.iconst (-1), 1) := by decide +kernel
theorem dX0_beliedEntryOf_78 : decode cX0_beliedEntryOf 78 = .ok (.ireturn, 1) := by decide +kernel
theorem dX0_replayFault_0 : decode cX0_replayFault 0 = .ok (.aload_n 0, 1) := by decide +kernel
theorem dX0_replayFault_1 : decode cX0_replayFault 1 = .ok (.getfield 9, 3) := by decide +kernel
theorem dX0_replayFault_4 : decode cX0_replayFault 4 = .ok (.istore_n 2, 1) := by decide +kernel
theorem dX0_replayFault_5 : decode cX0_replayFault 5 = .ok (.iconst 0, 1) := by decide +kernel
theorem dX0_replayFault_6 : decode cX0_replayFault 6 = .ok (.istore_n 3, 1) := by decide +kernel
theorem dX0_replayFault_7 : decode cX0_replayFault 7 = .ok (.iload_n 3, 1) := by decide +kernel
theorem dX0_replayFault_8 : decode cX0_replayFault 8 = .ok (.aload_n 0, 1) := by decide +kernel
theorem dX0_replayFault_9 : decode cX0_replayFault 9 = .ok (.getfield 24, 3) := by decide +kernel
theorem dX0_replayFault_12 : decode cX0_replayFault 12 = .ok (.getfield 65, 3) := by decide +kernel
theorem dX0_replayFault_15 : decode cX0_replayFault 15 = .ok (.if_icmp .ge 80, 3) := by decide +kernel
theorem dX0_replayFault_18 : decode cX0_replayFault 18 = .ok (.aload_n 0, 1) := by decide +kernel
theorem dX0_replayFault_19 : decode cX0_replayFault 19 = .ok (.getfield 24, 3) := by decide +kernel
theorem dX0_replayFault_22 : decode cX0_replayFault 22 = .ok (.iload_n 3, 1) := by decide +kernel
theorem dX0_replayFault_23 : decode cX0_replayFault 23 = .ok (.iconst 0, 1) := by decide +kernel
theorem dX0_replayFault_24 : decode cX0_replayFault 24 = .ok (.invokevirtual 68, 3) := by decide +kernel
theorem dX0_replayFault_27 : decode cX0_replayFault 27 = .ok (.iconst 2, 1) := by decide +kernel
theorem dX0_replayFault_28 : decode cX0_replayFault 28 = .ok (.if_icmp .ne 5, 3) := by decide +kernel
theorem dX0_replayFault_31 : decode cX0_replayFault 31 = .ok (.iload_n 3, 1) := by decide +kernel
theorem dX0_replayFault_32 : decode cX0_replayFault 32 = .ok (.ireturn, 1) := by decide +kernel
theorem dX0_replayFault_33 : decode cX0_replayFault 33 = .ok (.iload_n 2, 1) := by decide +kernel
theorem dX0_replayFault_34 : decode cX0_replayFault 34 = .ok (.aload_n 0, 1) := by decide +kernel
theorem dX0_replayFault_35 : decode cX0_replayFault 35 = .ok (.getfield 24, 3) := by decide +kernel
theorem dX0_replayFault_38 : decode cX0_replayFault 38 = .ok (.iload_n 3, 1) := by decide +kernel
theorem dX0_replayFault_39 : decode cX0_replayFault 39 = .ok (.iconst 1, 1) := by decide +kernel
theorem dX0_replayFault_40 : decode cX0_replayFault 40 = .ok (.invokevirtual 68, 3) := by decide +kernel
theorem dX0_replayFault_43 : decode cX0_replayFault 43 = .ok (.aload_n 0, 1) := by decide +kernel
theorem dX0_replayFault_44 : decode cX0_replayFault 44 = .ok (.getfield 24, 3) := by decide +kernel
theorem dX0_replayFault_47 : decode cX0_replayFault 47 = .ok (.iload_n 3, 1) := by decide +kernel
theorem dX0_replayFault_48 : decode cX0_replayFault 48 = .ok (.iconst 2, 1) := by decide +kernel
theorem dX0_replayFault_49 : decode cX0_replayFault 49 = .ok (.invokevirtual 68, 3) := by decide +kernel
theorem dX0_replayFault_52 : decode cX0_replayFault 52 = .ok (.invokestatic 91, 3) := by decide +kernel
theorem dX0_replayFault_55 : decode cX0_replayFault 55 = .ok (.istore_n 2, 1) := by decide +kernel
theorem dX0_replayFault_56 : decode cX0_replayFault 56 = .ok (.iinc 3 1, 3) := by decide +kernel
theorem dX0_replayFault_59 : decode cX0_replayFault 59 = .ok (.iload_n 2, 1) := by decide +kernel
theorem dX0_replayFault_60 : decode cX0_replayFault 60 = .ok (.invokestatic 95, 3) := by decide +kernel
theorem dX0_replayFault_63 : decode cX0_replayFault 63 = .ok (.ifCond .eq (-56), 3) := by decide +kernel
theorem dX0_replayFault_66 : decode cX0_replayFault 66 = .ok (.aload_n 0, 1) := by decide +kernel
theorem dX0_replayFault_67 : decode cX0_replayFault 67 = .ok (.iload_n 3, 1) := by decide +kernel
theorem dX0_replayFault_68 : decode cX0_replayFault 68 = .ok (.aload_n 0, 1) := by decide +kernel
theorem dX0_replayFault_69 : decode cX0_replayFault 69 = .ok (.getfield 9, 3) := by decide +kernel
theorem dX0_replayFault_72 : decode cX0_replayFault 72 = .ok (.iload_n 2, 1) := by decide +kernel
theorem dX0_replayFault_73 : decode cX0_replayFault 73 = .ok (.iload_n 1, 1) := by decide +kernel
theorem dX0_replayFault_74 : decode cX0_replayFault 74 = .ok (.invokestatic 99, 3) := by decide +kernel
theorem dX0_replayFault_77 : decode cX0_replayFault 77 = .ok (.iload_n 2, 1) := by decide +kernel
theorem dX0_replayFault_78 : decode cX0_replayFault 78 = .ok (.invokestatic 102, 3) := by decide +kernel
theorem dX0_replayFault_81 : decode cX0_replayFault 81 = .ok (.invokevirtual 105, 3) := by decide +kernel
theorem dX0_replayFault_84 : decode cX0_replayFault 84 = .ok (.ifCond .ne 5, 3) := by decide +kernel
theorem dX0_replayFault_87 : decode cX0_replayFault 87 = .ok (.iload_n 3, 1) := by decide +kernel
theorem dX0_replayFault_88 : decode cX0_replayFault 88 = .ok (.ireturn, 1) := by decide +kernel
theorem dX0_replayFault_89 : decode cX0_replayFault 89 = .ok (.iinc 3 1, 3) := by decide +kernel
theorem dX0_replayFault_92 : decode cX0_replayFault 92 = .ok (.goto (-85), 3) := by decide +kernel
theorem dX0_replayFault_95 : decode cX0_replayFault 95 = .ok (.iconst (-1), 1) := by decide +kernel
theorem dX0_replayFault_96 : decode cX0_replayFault 96 = .ok (.ireturn, 1) := by decide +kernel
theorem dX0_isSend_0 : decode cX0_isSend 0 = .ok (.iload_n 1, 1) := by decide +kernel
theorem dX0_isSend_1 : decode cX0_isSend 1 = .ok (.aload_n 0, 1) := by decide +kernel
theorem dX0_isSend_2 : decode cX0_isSend 2 = .ok (.getfield 24, 3) := by decide +kernel
theorem dX0_isSend_5 : decode cX0_isSend 5 = .ok (.getfield 65, 3) := by decide +kernel
theorem dX0_isSend_8 : decode cX0_isSend 8 = .ok (.if_icmp .ge 46, 3) := by decide +kernel
theorem dX0_isSend_11 : decode cX0_isSend 11 = .ok (.aload_n 0, 1) := by decide +kernel
theorem dX0_isSend_12 : decode cX0_isSend 12 = .ok (.getfield 24, 3) := by decide +kernel
theorem dX0_isSend_15 : decode cX0_isSend 15 = .ok (.iload_n 1, 1) := by decide +kernel
theorem dX0_isSend_16 : decode cX0_isSend 16 = .ok (.iconst 0, 1) := by decide +kernel
theorem dX0_isSend_17 : decode cX0_isSend 17 = .ok (.invokevirtual 68, 3) := by decide +kernel
theorem dX0_isSend_20 : decode cX0_isSend 20 = .ok (.iconst 2, 1) := by decide +kernel
theorem dX0_isSend_21 : decode cX0_isSend 21 = .ok (.if_icmp .ne 33, 3) := by decide +kernel
theorem dX0_isSend_24 : decode cX0_isSend 24 = .ok (.aload_n 0, 1) := by decide +kernel
theorem dX0_isSend_25 : decode cX0_isSend 25 = .ok (.getfield 24, 3) := by decide +kernel
theorem dX0_isSend_28 : decode cX0_isSend 28 = .ok (.iload_n 1, 1) := by decide +kernel
theorem dX0_isSend_29 : decode cX0_isSend 29 = .ok (.iconst 1, 1) := by decide +kernel
theorem dX0_isSend_30 : decode cX0_isSend 30 = .ok (.invokevirtual 68, 3) := by decide +kernel
theorem dX0_isSend_33 : decode cX0_isSend 33 = .ok (.iload_n 2, 1) := by decide +kernel
theorem dX0_isSend_34 : decode cX0_isSend 34 = .ok (.if_icmp .ne 20, 3) := by decide +kernel
theorem dX0_isSend_37 : decode cX0_isSend 37 = .ok (.aload_n 0, 1) := by decide +kernel
theorem dX0_isSend_38 : decode cX0_isSend 38 = .ok (.getfield 24, 3) := by decide +kernel
theorem dX0_isSend_41 : decode cX0_isSend 41 = .ok (.iload_n 1, 1) := by decide +kernel
theorem dX0_isSend_42 : decode cX0_isSend 42 = .ok (.iconst 2, 1) := by decide +kernel
theorem dX0_isSend_43 : decode cX0_isSend 43 = .ok (.invokevirtual 68, 3) := by decide +kernel
theorem dX0_isSend_46 : decode cX0_isSend 46 = .ok (.iload_n 3, 1) := by decide +kernel
theorem dX0_isSend_47 : decode cX0_isSend 47 = .ok (.if_icmp .ne 7, 3) := by decide +kernel
theorem dX0_isSend_50 : decode cX0_isSend 50 = .ok (.iconst 1, 1) := by decide +kernel
theorem dX0_isSend_51 : decode cX0_isSend 51 = .ok (.goto 4, 3) := by decide +kernel
theorem dX0_isSend_54 : decode cX0_isSend 54 = .ok (.iconst 0, 1) := by decide +kernel
theorem dX0_isSend_55 : decode cX0_isSend 55 = .ok (.ireturn, 1) := by decide +kernel
end
section
theorem dX1_init_0 : decode cX1_init 0 = .ok (.aload_n 0, 1) := by decide +kernel
theorem dX1_init_1 : decode cX1_init 1 = .ok (.invokespecial 3, 3) := by decide +kernel
theorem dX1_init_4 : decode cX1_init 4 = .ok (.aload_n 0, 1) := by decide +kernel
theorem dX1_init_5 : decode cX1_init 5 = .ok (.iload_n 1, 1) := by decide +kernel
theorem dX1_init_6 : decode cX1_init 6 = .ok (.putfield 9, 3) := by decide +kernel
theorem dX1_init_9 : decode cX1_init 9 = .ok (.aload_n 0, 1) := by decide +kernel
theorem dX1_init_10 : decode cX1_init 10 = .ok (.iload_n 2, 1) := by decide +kernel
theorem dX1_init_11 : decode cX1_init 11 = .ok (.putfield 15, 3) := by decide +kernel
theorem dX1_init_14 : decode cX1_init 14 = .ok (.aload_n 0, 1) := by decide +kernel
theorem dX1_init_15 : decode cX1_init 15 = .ok (.iload_n 1, 1) := by decide +kernel
theorem dX1_init_16 : decode cX1_init 16 = .ok (.iload_n 2, 1) := by decide +kernel
theorem dX1_init_17 : decode cX1_init 17 = .ok (.imul, 1) := by decide +kernel
theorem dX1_init_18 : decode cX1_init 18 = .ok (.newarray .int, 2) := by decide +kernel
theorem dX1_init_20 : decode cX1_init 20 = .ok (.putfield 18, 3) := by decide +kernel
theorem dX1_init_23 : decode cX1_init 23 = .ok (.return_, 1) := by decide +kernel
theorem dX1_get_0 : decode cX1_get 0 = .ok (.iload_n 1, 1) := by decide +kernel
theorem dX1_get_1 : decode cX1_get 1 = .ok (.ifCond .lt 23, 3) := by decide +kernel
theorem dX1_get_4 : decode cX1_get 4 = .ok (.iload_n 1, 1) := by decide +kernel
theorem dX1_get_5 : decode cX1_get 5 = .ok (.aload_n 0, 1) := by decide +kernel
theorem dX1_get_6 : decode cX1_get 6 = .ok (.getfield 22, 3) := by decide +kernel
theorem dX1_get_9 : decode cX1_get 9 = .ok (.if_icmp .ge 15, 3) := by decide +kernel
theorem dX1_get_12 : decode cX1_get 12 = .ok (.iload_n 2, 1) := by decide +kernel
theorem dX1_get_13 : decode cX1_get 13 = .ok (.ifCond .lt 11, 3) := by decide +kernel
theorem dX1_get_16 : decode cX1_get 16 = .ok (.iload_n 2, 1) := by decide +kernel
theorem dX1_get_17 : decode cX1_get 17 = .ok (.aload_n 0, 1) := by decide +kernel
theorem dX1_get_18 : decode cX1_get 18 = .ok (.getfield 9, 3) := by decide +kernel
theorem dX1_get_21 : decode cX1_get 21 = .ok (.if_icmp .lt 5, 3) := by decide +kernel
theorem dX1_get_24 : decode cX1_get 24 = .ok (.iconst (-1), 1) := by decide +kernel
theorem dX1_get_25 : decode cX1_get 25 = .ok (.ireturn, 1) := by decide +kernel
theorem dX1_get_26 : decode cX1_get 26 = .ok (.aload_n 0, 1) := by decide +kernel
theorem dX1_get_27 : decode cX1_get 27 = .ok (.getfield 18, 3) := by decide +kernel
theorem dX1_get_30 : decode cX1_get 30 = .ok (.iload_n 1, 1) := by decide +kernel
theorem dX1_get_31 : decode cX1_get 31 = .ok (.aload_n 0, 1) := by decide +kernel
theorem dX1_get_32 : decode cX1_get 32 = .ok (.getfield 9, 3) := by decide +kernel
theorem dX1_get_35 : decode cX1_get 35 = .ok (.imul, 1) := by decide +kernel
theorem dX1_get_36 : decode cX1_get 36 = .ok (.iload_n 2, 1) := by decide +kernel
theorem dX1_get_37 : decode cX1_get 37 = .ok (.iadd, 1) := by decide +kernel
theorem dX1_get_38 : decode cX1_get 38 = .ok (.iaload, 1) := by decide +kernel
theorem dX1_get_39 : decode cX1_get 39 = .ok (.ireturn, 1) := by decide +kernel
theorem dX1_set_0 : decode cX1_set 0 = .ok (.iload_n 1, 1) := by decide +kernel
theorem dX1_set_1 : decode cX1_set 1 = .ok (.ifCond .lt 37, 3) := by decide +kernel
theorem dX1_set_4 : decode cX1_set 4 = .ok (.iload_n 1, 1) := by decide +kernel
theorem dX1_set_5 : decode cX1_set 5 = .ok (.aload_n 0, 1) := by decide +kernel
theorem dX1_set_6 : decode cX1_set 6 = .ok (.getfield 22, 3) := by decide +kernel
theorem dX1_set_9 : decode cX1_set 9 = .ok (.if_icmp .ge 29, 3) := by decide +kernel
theorem dX1_set_12 : decode cX1_set 12 = .ok (.iload_n 2, 1) := by decide +kernel
theorem dX1_set_13 : decode cX1_set 13 = .ok (.ifCond .lt 25, 3) := by decide +kernel
theorem dX1_set_16 : decode cX1_set 16 = .ok (.iload_n 2, 1) := by decide +kernel
theorem dX1_set_17 : decode cX1_set 17 = .ok (.aload_n 0, 1) := by decide +kernel
theorem dX1_set_18 : decode cX1_set 18 = .ok (.getfield 9, 3) := by decide +kernel
theorem dX1_set_21 : decode cX1_set 21 = .ok (.if_icmp .ge 17, 3) := by decide +kernel
theorem dX1_set_24 : decode cX1_set 24 = .ok (.aload_n 0, 1) := by decide +kernel
theorem dX1_set_25 : decode cX1_set 25 = .ok (.getfield 18, 3) := by decide +kernel
theorem dX1_set_28 : decode cX1_set 28 = .ok (.iload_n 1, 1) := by decide +kernel
theorem dX1_set_29 : decode cX1_set 29 = .ok (.aload_n 0, 1) := by decide +kernel
theorem dX1_set_30 : decode cX1_set 30 = .ok (.getfield 9, 3) := by decide +kernel
theorem dX1_set_33 : decode cX1_set 33 = .ok (.imul, 1) := by decide +kernel
theorem dX1_set_34 : decode cX1_set 34 = .ok (.iload_n 2, 1) := by decide +kernel
theorem dX1_set_35 : decode cX1_set 35 = .ok (.iadd, 1) := by decide +kernel
theorem dX1_set_36 : decode cX1_set 36 = .ok (.iload_n 3, 1) := by decide +kernel
theorem dX1_set_37 : decode cX1_set 37 = .ok (.iastore, 1) := by decide +kernel
theorem dX1_set_38 : decode cX1_set 38 = .ok (.return_, 1) := by decide +kernel
theorem dX1_addRow_0 : decode cX1_addRow 0 = .ok (.aload_n 0, 1) := by decide +kernel
theorem dX1_addRow_1 : decode cX1_addRow 1 = .ok (.getfield 22, 3) := by decide +kernel
theorem dX1_addRow_4 : decode cX1_addRow 4 = .ok (.aload_n 0, 1) := by decide +kernel
theorem dX1_addRow_5 : decode cX1_addRow 5 = .ok (.getfield 15, 3) := by decide +kernel
theorem dX1_addRow_8 : decode cX1_addRow 8 = .ok (.if_icmp .lt 5, 3) := by decide +kernel
theorem dX1_addRow_11 : decode cX1_addRow 11 = .ok (.iconst (-1), 1) := by decide +kernel
theorem dX1_addRow_12 : decode cX1_addRow 12 = .ok (.ireturn, 1) := by decide +kernel
theorem dX1_addRow_13 : decode cX1_addRow 13 = .ok (.aload_n 0, 1) := by decide +kernel
theorem dX1_addRow_14 : decode cX1_addRow 14 = .ok (.dup, 1) := by decide +kernel
theorem dX1_addRow_15 : decode cX1_addRow 15 = .ok (.getfield 22, 3) := by decide +kernel
theorem dX1_addRow_18 : decode cX1_addRow 18 = .ok (.iconst 1, 1) := by decide +kernel
theorem dX1_addRow_19 : decode cX1_addRow 19 = .ok (.iadd, 1) := by decide +kernel
theorem dX1_addRow_20 : decode cX1_addRow 20 = .ok (.putfield 22, 3) := by decide +kernel
theorem dX1_addRow_23 : decode cX1_addRow 23 = .ok (.aload_n 0, 1) := by decide +kernel
theorem dX1_addRow_24 : decode cX1_addRow 24 = .ok (.getfield 22, 3) := by decide +kernel
theorem dX1_addRow_27 : decode cX1_addRow 27 = .ok (.iconst 1, 1) := by decide +kernel
theorem dX1_addRow_28 : decode cX1_addRow 28 = .ok (.isub, 1) := by decide +kernel
theorem dX1_addRow_29 : decode cX1_addRow 29 = .ok (.ireturn, 1) := by decide +kernel
theorem dX1_addCopy_0 : decode cX1_addCopy 0 = .ok (.aload_n 0, 1) := by decide +kernel
theorem dX1_addCopy_1 : decode cX1_addCopy 1 = .ok (.invokevirtual 25, 3) := by decide +kernel
theorem dX1_addCopy_4 : decode cX1_addCopy 4 = .ok (.istore_n 3, 1) := by decide +kernel
theorem dX1_addCopy_5 : decode cX1_addCopy 5 = .ok (.iconst 0, 1) := by decide +kernel
theorem dX1_addCopy_6 : decode cX1_addCopy 6 = .ok (.istore 4, 2) := by decide +kernel
theorem dX1_addCopy_8 : decode cX1_addCopy 8 = .ok (.iload 4, 2) := by decide +kernel
theorem dX1_addCopy_10 : decode cX1_addCopy 10 = .ok (.aload_n 0, 1) := by decide +kernel
theorem dX1_addCopy_11 : decode cX1_addCopy 11 = .ok (.getfield 9, 3) := by decide +kernel
theorem dX1_addCopy_14 : decode cX1_addCopy 14 = .ok (.if_icmp .ge 23, 3) := by decide +kernel
theorem dX1_addCopy_17 : decode cX1_addCopy 17 = .ok (.aload_n 0, 1) := by decide +kernel
theorem dX1_addCopy_18 : decode cX1_addCopy 18 = .ok (.iload_n 3, 1) := by decide +kernel
theorem dX1_addCopy_19 : decode cX1_addCopy 19 = .ok (.iload 4, 2) := by decide +kernel
theorem dX1_addCopy_21 : decode cX1_addCopy 21 = .ok (.aload_n 1, 1) := by decide +kernel
theorem dX1_addCopy_22 : decode cX1_addCopy 22 = .ok (.iload_n 2, 1) := by decide +kernel
theorem dX1_addCopy_23 : decode cX1_addCopy 23 = .ok (.iload 4, 2) := by decide +kernel
theorem dX1_addCopy_25 : decode cX1_addCopy 25 = .ok (.invokevirtual 29, 3) := by decide +kernel
theorem dX1_addCopy_28 : decode cX1_addCopy 28 = .ok (.invokevirtual 33, 3) := by decide +kernel
theorem dX1_addCopy_31 : decode cX1_addCopy 31 = .ok (.iinc 4 1, 3) := by decide +kernel
theorem dX1_addCopy_34 : decode cX1_addCopy 34 = .ok (.goto (-26), 3) := by decide +kernel
theorem dX1_addCopy_37 : decode cX1_addCopy 37 = .ok (.return_, 1) := by decide +kernel
theorem dX1_removeFirst_0 : decode cX1_removeFirst 0 = .ok (.aload_n 0, 1) := by decide +kernel
theorem dX1_removeFirst_1 : decode cX1_removeFirst 1 = .ok (.getfield 22, 3) := by decide +kernel
theorem dX1_removeFirst_4 : decode cX1_removeFirst 4 = .ok (.ifCond .le 38, 3) := by decide +kernel
theorem dX1_removeFirst_7 : decode cX1_removeFirst 7 = .ok (.aload_n 0, 1) := by decide +kernel
theorem dX1_removeFirst_8 : decode cX1_removeFirst 8 = .ok (.dup, 1) := by decide +kernel
theorem dX1_removeFirst_9 : decode cX1_removeFirst 9 = .ok (.getfield 22, 3) := by decide +kernel
theorem dX1_removeFirst_12 : decode cX1_removeFirst 12 = .ok (.iconst 1, 1) := by decide +kernel
theorem dX1_removeFirst_13 : decode cX1_removeFirst 13 = .ok (.isub, 1) := by decide +kernel
theorem dX1_removeFirst_14 : decode cX1_removeFirst 14 = .ok (.putfield 22, 3) := by decide +kernel
theorem dX1_removeFirst_17 : decode cX1_removeFirst 17 = .ok (.aload_n 0, 1) := by decide +kernel
theorem dX1_removeFirst_18 : decode cX1_removeFirst 18 = .ok (.getfield 18, 3) := by decide +kernel
theorem dX1_removeFirst_21 : decode cX1_removeFirst 21 = .ok (.aload_n 0, 1) := by decide +kernel
theorem dX1_removeFirst_22 : decode cX1_removeFirst 22 = .ok (.getfield 9, 3) := by decide +kernel
theorem dX1_removeFirst_25 : decode cX1_removeFirst 25 = .ok (.aload_n 0, 1) := by decide +kernel
theorem dX1_removeFirst_26 : decode cX1_removeFirst 26 = .ok (.getfield 18, 3) := by decide +kernel
theorem dX1_removeFirst_29 : decode cX1_removeFirst 29 = .ok (.iconst 0, 1) := by decide +kernel
theorem dX1_removeFirst_30 : decode cX1_removeFirst 30 = .ok (.aload_n 0, 1) := by decide +kernel
theorem dX1_removeFirst_31 : decode cX1_removeFirst 31 = .ok (.getfield 22, 3) := by decide +kernel
theorem dX1_removeFirst_34 : decode cX1_removeFirst 34 = .ok (.aload_n 0, 1) := by decide +kernel
theorem dX1_removeFirst_35 : decode cX1_removeFirst 35 = .ok (.getfield 9, 3) := by decide +kernel
theorem dX1_removeFirst_38 : decode cX1_removeFirst 38 = .ok (.imul, 1) := by decide +kernel
theorem dX1_removeFirst_39 : decode cX1_removeFirst 39 = .ok (.invokestatic 37, 3) := by decide +kernel
theorem dX1_removeFirst_42 : decode cX1_removeFirst 42 = .ok (.return_, 1) := by decide +kernel
theorem dX1_keepFirst_0 : decode cX1_keepFirst 0 = .ok (.iload_n 1, 1) := by decide +kernel
theorem dX1_keepFirst_1 : decode cX1_keepFirst 1 = .ok (.ifCond .lt 16, 3) := by decide +kernel
theorem dX1_keepFirst_4 : decode cX1_keepFirst 4 = .ok (.iload_n 1, 1) := by decide +kernel
theorem dX1_keepFirst_5 : decode cX1_keepFirst 5 = .ok (.aload_n 0, 1) := by decide +kernel
theorem dX1_keepFirst_6 : decode cX1_keepFirst 6 = .ok (.getfield 22, 3) := by decide +kernel
theorem dX1_keepFirst_9 : decode cX1_keepFirst 9 = .ok (.if_icmp .ge 8, 3) := by decide +kernel
theorem dX1_keepFirst_12 : decode cX1_keepFirst 12 = .ok (.aload_n 0, 1) := by decide +kernel
theorem dX1_keepFirst_13 : decode cX1_keepFirst 13 = .ok (.iload_n 1, 1) := by decide +kernel
theorem dX1_keepFirst_14 : decode cX1_keepFirst 14 = .ok (.putfield 22, 3) := by decide +kernel
theorem dX1_keepFirst_17 : decode cX1_keepFirst 17 = .ok (.return_, 1) := by decide +kernel
theorem dX1_copyRows_0 : decode cX1_copyRows 0 = .ok (.aload_n 0, 1) := by decide +kernel
theorem dX1_copyRows_1 : decode cX1_copyRows 1 = .ok (.aload_n 1, 1) := by decide +kernel
theorem dX1_copyRows_2 : decode cX1_copyRows 2 = .ok (.getfield 22, 3) := by decide +kernel
theorem dX1_copyRows_5 : decode cX1_copyRows 5 = .ok (.putfield 22, 3) := by decide +kernel
theorem dX1_copyRows_8 : decode cX1_copyRows 8 = .ok (.aload_n 1, 1) := by decide +kernel
theorem dX1_copyRows_9 : decode cX1_copyRows 9 = .ok (.getfield 18, 3) := by decide +kernel
theorem dX1_copyRows_12 : decode cX1_copyRows 12 = .ok (.iconst 0, 1) := by decide +kernel
theorem dX1_copyRows_13 : decode cX1_copyRows 13 = .ok (.aload_n 0, 1) := by decide +kernel
theorem dX1_copyRows_14 : decode cX1_copyRows 14 = .ok (.getfield 18, 3) := by decide +kernel
theorem dX1_copyRows_17 : decode cX1_copyRows 17 = .ok (.iconst 0, 1) := by decide +kernel
theorem dX1_copyRows_18 : decode cX1_copyRows 18 = .ok (.aload_n 0, 1) := by decide +kernel
theorem dX1_copyRows_19 : decode cX1_copyRows 19 = .ok (.getfield 22, 3) := by decide +kernel
theorem dX1_copyRows_22 : decode cX1_copyRows 22 = .ok (.aload_n 0, 1) := by decide +kernel
theorem dX1_copyRows_23 : decode cX1_copyRows 23 = .ok (.getfield 9, 3) := by decide +kernel
theorem dX1_copyRows_26 : decode cX1_copyRows 26 = .ok (.imul, 1) := by decide +kernel
theorem dX1_copyRows_27 : decode cX1_copyRows 27 = .ok (.invokestatic 37, 3) := by decide +kernel
theorem dX1_copyRows_30 : decode cX1_copyRows 30 = .ok (.return_, 1) := by decide +kernel
end
section
theorem dX2_init_0 : decode cX2_init 0 = .ok (.aload_n 0, 1) := by decide +kernel
theorem dX2_init_1 : decode cX2_init 1 = .ok (.invokespecial 3, 3) := by decide +kernel
theorem dX2_init_4 : decode cX2_init 4 = .ok (.aload_n 0, 1) := by decide +kernel
theorem dX2_init_5 : decode cX2_init 5 = .ok (.bipush 6, 2) := by decide +kernel
theorem dX2_init_7 : decode cX2_init 7 = .ok (.anewarray 9, 3) := by decide +kernel
theorem dX2_init_10 : decode cX2_init 10 = .ok (.putfield 11, 3) := by decide +kernel
theorem dX2_init_13 : decode cX2_init 13 = .ok (.iconst 0, 1) := by decide +kernel
theorem dX2_init_14 : decode cX2_init 14 = .ok (.istore_n 1, 1) := by decide +kernel
theorem dX2_init_15 : decode cX2_init 15 = .ok (.iload_n 1, 1) := by decide +kernel
theorem dX2_init_16 : decode cX2_init 16 = .ok (.bipush 6, 2) := by decide +kernel
theorem dX2_init_18 : decode cX2_init 18 = .ok (.if_icmp .ge 23, 3) := by decide +kernel
theorem dX2_init_21 : decode cX2_init 21 = .ok (.aload_n 0, 1) := by decide +kernel
theorem dX2_init_22 : decode cX2_init 22 = .ok (.getfield 11, 3) := by decide +kernel
theorem dX2_init_25 : decode cX2_init 25 = .ok (.iload_n 1, 1) := by decide +kernel
theorem dX2_init_26 : decode cX2_init 26 = .ok (.new 9, 3) := by decide +kernel
theorem dX2_init_29 : decode cX2_init 29 = .ok (.dup, 1) := by decide +kernel
theorem dX2_init_30 : decode cX2_init 30 = .ok (.iload_n 1, 1) := by decide +kernel
theorem dX2_init_31 : decode cX2_init 31 = .ok (.invokespecial 17, 3) := by decide +kernel
theorem dX2_init_34 : decode cX2_init 34 = .ok (.aastore, 1) := by decide +kernel
theorem dX2_init_35 : decode cX2_init 35 = .ok (.iinc 1 1, 3) := by decide +kernel
theorem dX2_init_38 : decode cX2_init 38 = .ok (.goto (-23), 3) := by decide +kernel
theorem dX2_init_41 : decode cX2_init 41 = .ok (.aload_n 0, 1) := by decide +kernel
theorem dX2_init_42 : decode cX2_init 42 = .ok (.new 20, 3) := by decide +kernel
theorem dX2_init_45 : decode cX2_init 45 = .ok (.dup, 1) := by decide +kernel
theorem dX2_init_46 : decode cX2_init 46 = .ok (.iconst 5, 1) := by decide +kernel
theorem dX2_init_47 : decode cX2_init 47 = .ok (.bipush 40, 2) := by decide +kernel
theorem dX2_init_49 : decode cX2_init 49 = .ok (.invokespecial 22, 3) := by decide +kernel
theorem dX2_init_52 : decode cX2_init 52 = .ok (.putfield 25, 3) := by decide +kernel
theorem dX2_init_55 : decode cX2_init 55 = .ok (.aload_n 0, 1) := by decide +kernel
theorem dX2_init_56 : decode cX2_init 56 = .ok (.new 20, 3) := by decide +kernel
theorem dX2_init_59 : decode cX2_init 59 = .ok (.dup, 1) := by decide +kernel
theorem dX2_init_60 : decode cX2_init 60 = .ok (.iconst 4, 1) := by decide +kernel
theorem dX2_init_61 : decode cX2_init 61 = .ok (.bipush 30, 2) := by decide +kernel
theorem dX2_init_63 : decode cX2_init 63 = .ok (.invokespecial 22, 3) := by decide +kernel
theorem dX2_init_66 : decode cX2_init 66 = .ok (.putfield 29, 3) := by decide +kernel
theorem dX2_init_69 : decode cX2_init 69 = .ok (.return_, 1) := by decide +kernel
theorem dX2_begin_0 : decode cX2_begin 0 = .ok (.aload_n 0, 1) := by decide +kernel
theorem dX2_begin_1 : decode cX2_begin 1 = .ok (.iload_n 1, 1) := by decide +kernel
theorem dX2_begin_2 : decode cX2_begin 2 = .ok (.putfield 32, 3) := by decide +kernel
theorem dX2_begin_5 : decode cX2_begin 5 = .ok (.iconst 0, 1) := by decide +kernel
theorem dX2_begin_6 : decode cX2_begin 6 = .ok (.istore_n 2, 1) := by decide +kernel
theorem dX2_begin_7 : decode cX2_begin 7 = .ok (.iload_n 2, 1) := by decide +kernel
theorem dX2_begin_8 : decode cX2_begin 8 = .ok (.aload_n 0, 1) := by decide +kernel
theorem dX2_begin_9 : decode cX2_begin 9 = .ok (.getfield 32, 3) := by decide +kernel
theorem dX2_begin_12 : decode cX2_begin 12 = .ok (.if_icmp .ge 22, 3) := by decide +kernel
theorem dX2_begin_15 : decode cX2_begin 15 = .ok (.aload_n 0, 1) := by decide +kernel
theorem dX2_begin_16 : decode cX2_begin 16 = .ok (.getfield 11, 3) := by decide +kernel
theorem dX2_begin_19 : decode cX2_begin 19 = .ok (.iload_n 2, 1) := by decide +kernel
theorem dX2_begin_20 : decode cX2_begin 20 = .ok (.aaload, 1) := by decide +kernel
theorem dX2_begin_21 : decode cX2_begin 21 = .ok (.aload_n 0, 1) := by decide +kernel
theorem dX2_begin_22 : decode cX2_begin 22 = .ok (.getfield 32, 3) := by decide +kernel
theorem dX2_begin_25 : decode cX2_begin 25 = .ok (.invokevirtual 36, 3) := by decide +kernel
theorem dX2_begin_28 : decode cX2_begin 28 = .ok (.iinc 2 1, 3) := by decide +kernel
theorem dX2_begin_31 : decode cX2_begin 31 = .ok (.goto (-24), 3) := by decide +kernel
theorem dX2_begin_34 : decode cX2_begin 34 = .ok (.aload_n 0, 1) := by decide +kernel
theorem dX2_begin_35 : decode cX2_begin 35 = .ok (.getfield 25, 3) := by decide +kernel
theorem dX2_begin_38 : decode cX2_begin 38 = .ok (.iconst 0, 1) := by decide +kernel
theorem dX2_begin_39 : decode cX2_begin 39 = .ok (.invokevirtual 39, 3) := by decide +kernel
theorem dX2_begin_42 : decode cX2_begin 42 = .ok (.aload_n 0, 1) := by decide +kernel
theorem dX2_begin_43 : decode cX2_begin 43 = .ok (.getfield 29, 3) := by decide +kernel
theorem dX2_begin_46 : decode cX2_begin 46 = .ok (.iconst 0, 1) := by decide +kernel
theorem dX2_begin_47 : decode cX2_begin 47 = .ok (.invokevirtual 39, 3) := by decide +kernel
theorem dX2_begin_50 : decode cX2_begin 50 = .ok (.return_, 1) := by decide +kernel
theorem dX2_copyWorld_0 : decode cX2_copyWorld 0 = .ok (.aload_n 0, 1) := by decide +kernel
theorem dX2_copyWorld_1 : decode cX2_copyWorld 1 = .ok (.aload_n 1, 1) := by decide +kernel
theorem dX2_copyWorld_2 : decode cX2_copyWorld 2 = .ok (.getfield 32, 3) := by decide +kernel
theorem dX2_copyWorld_5 : decode cX2_copyWorld 5 = .ok (.putfield 32, 3) := by decide +kernel
theorem dX2_copyWorld_8 : decode cX2_copyWorld 8 = .ok (.iconst 0, 1) := by decide +kernel
theorem dX2_copyWorld_9 : decode cX2_copyWorld 9 = .ok (.istore_n 2, 1) := by decide +kernel
theorem dX2_copyWorld_10 : decode cX2_copyWorld 10 = .ok (.iload_n 2, 1) := by decide +kernel
theorem dX2_copyWorld_11 : decode cX2_copyWorld 11 = .ok (.aload_n 0, 1) := by decide +kernel
theorem dX2_copyWorld_12 : decode cX2_copyWorld 12 = .ok (.getfield 32, 3) := by decide +kernel
theorem dX2_copyWorld_15 : decode cX2_copyWorld 15 = .ok (.if_icmp .ge 24, 3) := by decide +kernel
theorem dX2_copyWorld_18 : decode cX2_copyWorld 18 = .ok (.aload_n 0, 1) := by decide +kernel
theorem dX2_copyWorld_19 : decode cX2_copyWorld 19 = .ok (.getfield 11, 3) := by decide +kernel
theorem dX2_copyWorld_22 : decode cX2_copyWorld 22 = .ok (.iload_n 2, 1) := by decide +kernel
theorem dX2_copyWorld_23 : decode cX2_copyWorld 23 = .ok (.aaload, 1) := by decide +kernel
theorem dX2_copyWorld_24 : decode cX2_copyWorld 24 = .ok (.aload_n 1, 1) := by decide +kernel
theorem dX2_copyWorld_25 : decode cX2_copyWorld 25 = .ok (.getfield 11, 3) := by decide +kernel
theorem dX2_copyWorld_28 : decode cX2_copyWorld 28 = .ok (.iload_n 2, 1) := by decide +kernel
theorem dX2_copyWorld_29 : decode cX2_copyWorld 29 = .ok (.aaload, 1) := by decide +kernel
theorem dX2_copyWorld_30 : decode cX2_copyWorld 30 = .ok (.invokevirtual 42, 3) := by decide +kernel
theorem dX2_copyWorld_33 : decode cX2_copyWorld 33 = .ok (.iinc 2 1, 3) := by decide +kernel
theorem dX2_copyWorld_36 : decode cX2_copyWorld 36 = .ok (.goto (-26), 3) := by decide +kernel
theorem dX2_copyWorld_39 : decode cX2_copyWorld 39 = .ok (.aload_n 0, 1) := by decide +kernel
theorem dX2_copyWorld_40 : decode cX2_copyWorld 40 = .ok (.getfield 25, 3) := by decide +kernel
theorem dX2_copyWorld_43 : decode cX2_copyWorld 43 = .ok (.aload_n 1, 1) := by decide +kernel
theorem dX2_copyWorld_44 : decode cX2_copyWorld 44 = .ok (.getfield 25, 3) := by decide +kernel
theorem dX2_copyWorld_47 : decode cX2_copyWorld 47 = .ok (.invokevirtual 46, 3) := by decide +kernel
theorem dX2_copyWorld_50 : decode cX2_copyWorld 50 = .ok (.aload_n 0, 1) := by decide +kernel
theorem dX2_copyWorld_51 : decode cX2_copyWorld 51 = .ok (.getfield 29, 3) := by decide +kernel
theorem dX2_copyWorld_54 : decode cX2_copyWorld 54 = .ok (.aload_n 1, 1) := by decide +kernel
theorem dX2_copyWorld_55 : decode cX2_copyWorld 55 = .ok (.getfield 29, 3) := by decide +kernel
theorem dX2_copyWorld_58 : decode cX2_copyWorld 58 = .ok (.invokevirtual 46, 3) := by decide +kernel
theorem dX2_copyWorld_61 : decode cX2_copyWorld 61 = .ok (.return_, 1) := by decide +kernel
theorem dX2_isMachine_0 : decode cX2_isMachine 0 = .ok (.iload_n 1, 1) := by decide +kernel
theorem dX2_isMachine_1 : decode cX2_isMachine 1 = .ok (.ifCond .lt 15, 3) := by decide +kernel
theorem dX2_isMachine_4 : decode cX2_isMachine 4 = .ok (.iload_n 1, 1) := by decide +kernel
theorem dX2_isMachine_5 : decode cX2_isMachine 5 = .ok (.aload_n 0, 1) := by decide +kernel
theorem dX2_isMachine_6 : decode cX2_isMachine 6 = .ok (.getfield 32, 3) := by decide +kernel
theorem dX2_isMachine_9 : decode cX2_isMachine 9 = .ok (.if_icmp .ge 7, 3) := by decide +kernel
theorem dX2_isMachine_12 : decode cX2_isMachine 12 = .ok (.iconst 1, 1) := by decide +kernel
theorem dX2_isMachine_13 : decode cX2_isMachine 13 = .ok (.goto 4, 3) := by decide +kernel
theorem dX2_isMachine_16 : decode cX2_isMachine 16 = .ok (.iconst 0, 1) := by decide +kernel
theorem dX2_isMachine_17 : decode cX2_isMachine 17 = .ok (.ireturn, 1) := by decide +kernel
theorem dX2_take_0 : decode cX2_take 0 = .ok (.aload_n 1, 1) := by decide +kernel
theorem dX2_take_1 : decode cX2_take 1 = .ok (.iload_n 2, 1) := by decide +kernel
theorem dX2_take_2 : decode cX2_take 2 = .ok (.iload_n 3, 1) := by decide +kernel
theorem dX2_take_3 : decode cX2_take 3 = .ok (.iload 4, 2) := by decide +kernel
theorem dX2_take_5 : decode cX2_take 5 = .ok (.invokevirtual 50, 3) := by decide +kernel
theorem dX2_take_8 : decode cX2_take 8 = .ok (.aload_n 1, 1) := by decide +kernel
theorem dX2_take_9 : decode cX2_take 9 = .ok (.aload_n 1, 1) := by decide +kernel
theorem dX2_take_10 : decode cX2_take 10 = .ok (.getfield 54, 3) := by decide +kernel
theorem dX2_take_13 : decode cX2_take 13 = .ok (.iload_n 3, 1) := by decide +kernel
theorem dX2_take_14 : decode cX2_take 14 = .ok (.iload 4, 2) := by decide +kernel
theorem dX2_take_16 : decode cX2_take 16 = .ok (.invokestatic 57, 3) := by decide +kernel
theorem dX2_take_19 : decode cX2_take 19 = .ok (.putfield 54, 3) := by decide +kernel
theorem dX2_take_22 : decode cX2_take 22 = .ok (.aload_n 1, 1) := by decide +kernel
theorem dX2_take_23 : decode cX2_take 23 = .ok (.getfield 54, 3) := by decide +kernel
theorem dX2_take_26 : decode cX2_take 26 = .ok (.invokestatic 61, 3) := by decide +kernel
theorem dX2_take_29 : decode cX2_take 29 = .ok (.ifCond .eq 8, 3) := by decide +kernel
theorem dX2_take_32 : decode cX2_take 32 = .ok (.aload_n 0, 1) := by decide +kernel
theorem dX2_take_33 : decode cX2_take 33 = .ok (.aload_n 1, 1) := by decide +kernel
theorem dX2_take_34 : decode cX2_take 34 = .ok (.invokevirtual 65, 3) := by decide +kernel
theorem dX2_take_37 : decode cX2_take 37 = .ok (.return_, 1) := by decide +kernel
theorem dX2_send_0 : decode cX2_send 0 = .ok (.aload_n 1, 1) := by decide +kernel
theorem dX2_send_1 : decode cX2_send 1 = .ok (.getfield 68, 3) := by decide +kernel
theorem dX2_send_4 : decode cX2_send 4 = .ok (.aload_n 1, 1) := by decide +kernel
theorem dX2_send_5 : decode cX2_send 5 = .ok (.getfield 54, 3) := by decide +kernel
theorem dX2_send_8 : decode cX2_send 8 = .ok (.aload_n 0, 1) := by decide +kernel
theorem dX2_send_9 : decode cX2_send 9 = .ok (.getfield 32, 3) := by decide +kernel
theorem dX2_send_12 : decode cX2_send 12 = .ok (.invokestatic 71, 3) := by decide +kernel
theorem dX2_send_15 : decode cX2_send 15 = .ok (.istore_n 2, 1) := by decide +kernel
theorem dX2_send_16 : decode cX2_send 16 = .ok (.aload_n 1, 1) := by decide +kernel
theorem dX2_send_17 : decode cX2_send 17 = .ok (.getfield 54, 3) := by decide +kernel
theorem dX2_send_20 : decode cX2_send 20 = .ok (.invokestatic 74, 3) := by decide +kernel
theorem dX2_send_23 : decode cX2_send 23 = .ok (.istore_n 3, 1) := by decide +kernel
theorem dX2_send_24 : decode cX2_send 24 = .ok (.aload_n 1, 1) := by decide +kernel
theorem dX2_send_25 : decode cX2_send 25 = .ok (.getfield 78, 3) := by decide +kernel
theorem dX2_send_28 : decode cX2_send 28 = .ok (.ifCond .eq 16, 3) := by decide +kernel
theorem dX2_send_31 : decode cX2_send 31 = .ok (.iload_n 3, 1) := by decide +kernel
theorem dX2_send_32 : decode cX2_send 32 = .ok (.iconst 1, 1) := by decide +kernel
theorem dX2_send_33 : decode cX2_send 33 = .ok (.iadd, 1) := by decide +kernel
theorem dX2_send_34 : decode cX2_send 34 = .ok (.sipush 1000, 3) := by decide +kernel
theorem dX2_send_37 : decode cX2_send 37 = .ok (.irem, 1) := by decide +kernel
theorem dX2_send_38 : decode cX2_send 38 = .ok (.istore_n 3, 1) := by decide +kernel
theorem dX2_send_39 : decode cX2_send 39 = .ok (.aload_n 1, 1) := by decide +kernel
theorem dX2_send_40 : decode cX2_send 40 = .ok (.iconst 0, 1) := by decide +kernel
theorem dX2_send_41 : decode cX2_send 41 = .ok (.putfield 78, 3) := by decide +kernel
theorem dX2_send_44 : decode cX2_send 44 = .ok (.aload_n 1, 1) := by decide +kernel
theorem dX2_send_45 : decode cX2_send 45 = .ok (.getfield 82, 3) := by decide +kernel
theorem dX2_send_48 : decode cX2_send 48 = .ok (.getfield 85, 3) := by decide +kernel
theorem dX2_send_51 : decode cX2_send 51 = .ok (.istore 4, 2) := by decide +kernel
theorem dX2_send_53 : decode cX2_send 53 = .ok (.aload_n 1, 1) := by decide +kernel
theorem dX2_send_54 : decode cX2_send 54 = .ok (.iconst 2, 1) := by decide +kernel
theorem dX2_send_55 : decode cX2_send 55 = .ok (.iload_n 2, 1) := by decide +kernel
theorem dX2_send_56 : decode cX2_send 56 = .ok (.iload_n 3, 1) := by decide +kernel
theorem dX2_send_57 : decode cX2_send 57 = .ok (.invokevirtual 50, 3) := by decide +kernel
theorem dX2_send_60 : decode cX2_send 60 = .ok (.aload_n 0, 1) := by decide +kernel
theorem dX2_send_61 : decode cX2_send 61 = .ok (.getfield 25, 3) := by decide +kernel
theorem dX2_send_64 : decode cX2_send 64 = .ok (.invokevirtual 88, 3) := by decide +kernel
theorem dX2_send_67 : decode cX2_send 67 = .ok (.istore 5, 2) := by decide +kernel
theorem dX2_send_69 : decode cX2_send 69 = .ok (.aload_n 0, 1) := by decide +kernel
theorem dX2_send_70 : decode cX2_send 70 = .ok (.getfield 25, 3) := by decide +kernel
theorem dX2_send_73 : decode cX2_send 73 = .ok (.iload 5, 2) := by decide +kernel
theorem dX2_send_75 : decode cX2_send 75 = .ok (.iconst 0, 1) := by decide +kernel
theorem dX2_send_76 : decode cX2_send 76 = .ok (.aload_n 1, 1) := by decide +kernel
theorem dX2_send_77 : decode cX2_send 77 = .ok (.getfield 68, 3) := by decide +kernel
theorem dX2_send_80 : decode cX2_send 80 = .ok (.invokevirtual 92, 3) := by decide +kernel
theorem dX2_send_83 : decode cX2_send 83 = .ok (.aload_n 0, 1) := by decide +kernel
theorem dX2_send_84 : decode cX2_send 84 = .ok (.getfield 25, 3) := by decide +kernel
theorem dX2_send_87 : decode cX2_send 87 = .ok (.iload 5, 2) := by decide +kernel
theorem dX2_send_89 : decode cX2_send 89 = .ok (.iconst 1, 1) := by decide +kernel
theorem dX2_send_90 : decode cX2_send 90 = .ok (.iload 4, 2) := by decide +kernel
theorem dX2_send_92 : decode cX2_send 92 = .ok (.invokevirtual 92, 3) := by decide +kernel
theorem dX2_send_95 : decode cX2_send 95 = .ok (.aload_n 0, 1) := by decide +kernel
theorem dX2_send_96 : decode cX2_send 96 = .ok (.getfield 25, 3) := by decide +kernel
theorem dX2_send_99 : decode cX2_send 99 = .ok (.iload 5, 2) := by decide +kernel
theorem dX2_send_101 : decode cX2_send 101 = .ok (.iconst 2, 1) := by decide +kernel
theorem dX2_send_102 : decode cX2_send 102 = .ok (.aload_n 1, 1) := by decide +kernel
theorem dX2_send_103 : decode cX2_send 103 = .ok (.iload 4, 2) := by decide +kernel
theorem dX2_send_105 : decode cX2_send 105 = .ok (.iconst 1, 1) := by decide +kernel
theorem dX2_send_106 : decode cX2_send 106 = .ok (.iadd, 1) := by decide +kernel
theorem dX2_send_107 : decode cX2_send 107 = .ok (.invokevirtual 95, 3) := by decide +kernel
theorem dX2_send_110 : decode cX2_send 110 = .ok (.invokevirtual 92, 3) := by decide +kernel
theorem dX2_send_113 : decode cX2_send 113 = .ok (.aload_n 0, 1) := by decide +kernel
theorem dX2_send_114 : decode cX2_send 114 = .ok (.getfield 25, 3) := by decide +kernel
theorem dX2_send_117 : decode cX2_send 117 = .ok (.iload 5, 2) := by decide +kernel
theorem dX2_send_119 : decode cX2_send 119 = .ok (.iconst 3, 1) := by decide +kernel
theorem dX2_send_120 : decode cX2_send 120 = .ok (.iload_n 2, 1) := by decide +kernel
theorem dX2_send_121 : decode cX2_send 121 = .ok (.invokevirtual 92, 3) := by decide +kernel
theorem dX2_send_124 : decode cX2_send 124 = .ok (.aload_n 0, 1) := by decide +kernel
theorem dX2_send_125 : decode cX2_send 125 = .ok (.getfield 25, 3) := by decide +kernel
theorem dX2_send_128 : decode cX2_send 128 = .ok (.iload 5, 2) := by decide +kernel
theorem dX2_send_130 : decode cX2_send 130 = .ok (.iconst 4, 1) := by decide +kernel
theorem dX2_send_131 : decode cX2_send 131 = .ok (.iload_n 3, 1) := by decide +kernel
theorem dX2_send_132 : decode cX2_send 132 = .ok (.invokevirtual 92, 3) := by decide +kernel
theorem dX2_send_135 : decode cX2_send 135 = .ok (.return_, 1) := by decide +kernel
theorem dX2_firstReceiver_0 : decode cX2_firstReceiver 0 = .ok (.aload_n 0, 1) := by decide +kernel
theorem dX2_firstReceiver_1 : decode cX2_firstReceiver 1 = .ok (.getfield 25, 3) := by decide +kernel
theorem dX2_firstReceiver_4 : decode cX2_firstReceiver 4 = .ok (.iconst 0, 1) := by decide +kernel
theorem dX2_firstReceiver_5 : decode cX2_firstReceiver 5 = .ok (.iconst 3, 1) := by decide +kernel
theorem dX2_firstReceiver_6 : decode cX2_firstReceiver 6 = .ok (.invokevirtual 98, 3) := by decide +kernel
theorem dX2_firstReceiver_9 : decode cX2_firstReceiver 9 = .ok (.ireturn, 1) := by decide +kernel
theorem dX2_canDeliver_0 : decode cX2_canDeliver 0 = .ok (.aload_n 0, 1) := by decide +kernel
theorem dX2_canDeliver_1 : decode cX2_canDeliver 1 = .ok (.invokevirtual 102, 3) := by decide +kernel
theorem dX2_canDeliver_4 : decode cX2_canDeliver 4 = .ok (.istore_n 1, 1) := by decide +kernel
theorem dX2_canDeliver_5 : decode cX2_canDeliver 5 = .ok (.aload_n 0, 1) := by decide +kernel
theorem dX2_canDeliver_6 : decode cX2_canDeliver 6 = .ok (.iload_n 1, 1) := by decide +kernel
theorem dX2_canDeliver_7 : decode cX2_canDeliver 7 = .ok (.invokevirtual 105, 3) := by decide +kernel
theorem dX2_canDeliver_10 : decode cX2_canDeliver 10 = .ok (.ifCond .eq 19, 3) := by decide +kernel
theorem dX2_canDeliver_13 : decode cX2_canDeliver 13 = .ok (.aload_n 0, 1) := by decide +kernel
theorem dX2_canDeliver_14 : decode cX2_canDeliver 14 = .ok (.aload_n 0, 1) := by decide +kernel
theorem dX2_canDeliver_15 : decode cX2_canDeliver 15 = .ok (.getfield 25, 3) := by decide +kernel
theorem dX2_canDeliver_18 : decode cX2_canDeliver 18 = .ok (.iconst 0, 1) := by decide +kernel
theorem dX2_canDeliver_19 : decode cX2_canDeliver 19 = .ok (.iconst 0, 1) := by decide +kernel
theorem dX2_canDeliver_20 : decode cX2_canDeliver 20 = .ok (.invokevirtual 98, 3) := by decide +kernel
theorem dX2_canDeliver_23 : decode cX2_canDeliver 23 = .ok (.invokevirtual 105, 3) := by decide +kernel
theorem dX2_canDeliver_26 : decode cX2_canDeliver 26 = .ok (.ifCond .ne 5, 3) := by decide +kernel
theorem dX2_canDeliver_29 : decode cX2_canDeliver 29 = .ok (.iconst 0, 1) := by decide +kernel
theorem dX2_canDeliver_30 : decode cX2_canDeliver 30 = .ok (.ireturn, 1) := by decide +kernel
theorem dX2_canDeliver_31 : decode cX2_canDeliver 31 = .ok (.aload_n 0, 1) := by decide +kernel
theorem dX2_canDeliver_32 : decode cX2_canDeliver 32 = .ok (.getfield 11, 3) := by decide +kernel
theorem dX2_canDeliver_35 : decode cX2_canDeliver 35 = .ok (.iload_n 1, 1) := by decide +kernel
theorem dX2_canDeliver_36 : decode cX2_canDeliver 36 = .ok (.aaload, 1) := by decide +kernel
theorem dX2_canDeliver_37 : decode cX2_canDeliver 37 = .ok (.getfield 108, 3) := by decide +kernel
theorem dX2_canDeliver_40 : decode cX2_canDeliver 40 = .ok (.ifCond .ne 24, 3) := by decide +kernel
theorem dX2_canDeliver_43 : decode cX2_canDeliver 43 = .ok (.aload_n 0, 1) := by decide +kernel
theorem dX2_canDeliver_44 : decode cX2_canDeliver 44 = .ok (.getfield 11, 3) := by decide +kernel
theorem dX2_canDeliver_47 : decode cX2_canDeliver 47 = .ok (.iload_n 1, 1) := by decide +kernel
theorem dX2_canDeliver_48 : decode cX2_canDeliver 48 = .ok (.aaload, 1) := by decide +kernel
theorem dX2_canDeliver_49 : decode cX2_canDeliver 49 = .ok (.aload_n 0, 1) := by decide +kernel
theorem dX2_canDeliver_50 : decode cX2_canDeliver 50 = .ok (.getfield 25, 3) := by decide +kernel
theorem dX2_canDeliver_53 : decode cX2_canDeliver 53 = .ok (.getfield 85, 3) := by decide +kernel
theorem dX2_canDeliver_56 : decode cX2_canDeliver 56 = .ok (.iconst 1, 1) := by decide +kernel
theorem dX2_canDeliver_57 : decode cX2_canDeliver 57 = .ok (.isub, 1) := by decide +kernel
theorem dX2_canDeliver_58 : decode cX2_canDeliver 58 = .ok (.invokevirtual 111, 3) := by decide +kernel
theorem dX2_canDeliver_61 : decode cX2_canDeliver 61 = .ok (.ifCond .eq 7, 3) := by decide +kernel
theorem dX2_canDeliver_64 : decode cX2_canDeliver 64 = .ok (.iconst 1, 1) := by decide +kernel
theorem dX2_canDeliver_65 : decode cX2_canDeliver 65 = .ok (.goto 4, 3) := by decide +kernel
theorem dX2_canDeliver_68 : decode cX2_canDeliver 68 = .ok (.iconst 0, 1) := by decide +kernel
theorem dX2_canDeliver_69 : decode cX2_canDeliver 69 = .ok (.ireturn, 1) := by decide +kernel
theorem dX2_deliverFirst_0 : decode cX2_deliverFirst 0 = .ok (.aload_n 0, 1) := by decide +kernel
theorem dX2_deliverFirst_1 : decode cX2_deliverFirst 1 = .ok (.getfield 11, 3) := by decide +kernel
theorem dX2_deliverFirst_4 : decode cX2_deliverFirst 4 = .ok (.aload_n 0, 1) := by decide +kernel
theorem dX2_deliverFirst_5 : decode cX2_deliverFirst 5 = .ok (.getfield 25, 3) := by decide +kernel
theorem dX2_deliverFirst_8 : decode cX2_deliverFirst 8 = .ok (.iconst 0, 1) := by decide +kernel
theorem dX2_deliverFirst_9 : decode cX2_deliverFirst 9 = .ok (.iconst 3, 1) := by decide +kernel
theorem dX2_deliverFirst_10 : decode cX2_deliverFirst 10 = .ok (.invokevirtual 98, 3) := by decide +kernel
theorem dX2_deliverFirst_13 : decode cX2_deliverFirst 13 = .ok (.aaload, 1) := by decide +kernel
theorem dX2_deliverFirst_14 : decode cX2_deliverFirst 14 = .ok (.astore_n 1, 1) := by decide +kernel
theorem dX2_deliverFirst_15 : decode cX2_deliverFirst 15 = .ok (.aload_n 1, 1) := by decide +kernel
theorem dX2_deliverFirst_16 : decode cX2_deliverFirst 16 = .ok (.getfield 108, 3) := by decide +kernel
theorem dX2_deliverFirst_19 : decode cX2_deliverFirst 19 = .ok (.ifCond .eq 23, 3) := by decide +kernel
theorem dX2_deliverFirst_22 : decode cX2_deliverFirst 22 = .ok (.aload_n 1, 1) := by decide +kernel
theorem dX2_deliverFirst_23 : decode cX2_deliverFirst 23 = .ok (.getfield 114, 3) := by decide +kernel
theorem dX2_deliverFirst_26 : decode cX2_deliverFirst 26 = .ok (.aload_n 0, 1) := by decide +kernel
theorem dX2_deliverFirst_27 : decode cX2_deliverFirst 27 = .ok (.getfield 25, 3) := by decide +kernel
theorem dX2_deliverFirst_30 : decode cX2_deliverFirst 30 = .ok (.iconst 0, 1) := by decide +kernel
theorem dX2_deliverFirst_31 : decode cX2_deliverFirst 31 = .ok (.invokevirtual 117, 3) := by decide +kernel
theorem dX2_deliverFirst_34 : decode cX2_deliverFirst 34 = .ok (.aload_n 0, 1) := by decide +kernel
theorem dX2_deliverFirst_35 : decode cX2_deliverFirst 35 = .ok (.getfield 25, 3) := by decide +kernel
theorem dX2_deliverFirst_38 : decode cX2_deliverFirst 38 = .ok (.invokevirtual 121, 3) := by decide +kernel
theorem dX2_deliverFirst_41 : decode cX2_deliverFirst 41 = .ok (.return_, 1) := by decide +kernel
theorem dX2_deliverFirst_42 : decode cX2_deliverFirst 42 = .ok (.aload_n 0, 1) := by decide +kernel
theorem dX2_deliverFirst_43 : decode cX2_deliverFirst 43 = .ok (.getfield 11, 3) := by decide +kernel
theorem dX2_deliverFirst_46 : decode cX2_deliverFirst 46 = .ok (.aload_n 0, 1) := by decide +kernel
theorem dX2_deliverFirst_47 : decode cX2_deliverFirst 47 = .ok (.getfield 25, 3) := by decide +kernel
theorem dX2_deliverFirst_50 : decode cX2_deliverFirst 50 = .ok (.iconst 0, 1) := by decide +kernel
theorem dX2_deliverFirst_51 : decode cX2_deliverFirst 51 = .ok (.iconst 0, 1) := by decide +kernel
theorem dX2_deliverFirst_52 : decode cX2_deliverFirst 52 = .ok (.invokevirtual 98, 3) := by decide +kernel
theorem dX2_deliverFirst_55 : decode cX2_deliverFirst 55 = .ok (.aaload, 1) := by decide +kernel
theorem dX2_deliverFirst_56 : decode cX2_deliverFirst 56 = .ok (.astore_n 2, 1) := by decide +kernel
theorem dX2_deliverFirst_57 : decode cX2_deliverFirst 57 = .ok (.aload_n 0, 1) := by decide +kernel
theorem dX2_deliverFirst_58 : decode cX2_deliverFirst 58 = .ok (.getfield 25, 3) := by decide +kernel
theorem dX2_deliverFirst_61 : decode cX2_deliverFirst 61 = .ok (.iconst 0, 1) := by decide +kernel
theorem dX2_deliverFirst_62 : decode cX2_deliverFirst 62 = .ok (.iconst 4, 1) := by decide +kernel
theorem dX2_deliverFirst_63 : decode cX2_deliverFirst 63 = .ok (.invokevirtual 98, 3) := by decide +kernel
theorem dX2_deliverFirst_66 : decode cX2_deliverFirst 66 = .ok (.istore_n 3, 1) := by decide +kernel
theorem dX2_deliverFirst_67 : decode cX2_deliverFirst 67 = .ok (.aload_n 1, 1) := by decide +kernel
theorem dX2_deliverFirst_68 : decode cX2_deliverFirst 68 = .ok (.aload_n 2, 1) := by decide +kernel
theorem dX2_deliverFirst_69 : decode cX2_deliverFirst 69 = .ok (.getfield 68, 3) := by decide +kernel
theorem dX2_deliverFirst_72 : decode cX2_deliverFirst 72 = .ok (.aload_n 0, 1) := by decide +kernel
theorem dX2_deliverFirst_73 : decode cX2_deliverFirst 73 = .ok (.getfield 25, 3) := by decide +kernel
theorem dX2_deliverFirst_76 : decode cX2_deliverFirst 76 = .ok (.iconst 0, 1) := by decide +kernel
theorem dX2_deliverFirst_77 : decode cX2_deliverFirst 77 = .ok (.iconst 1, 1) := by decide +kernel
theorem dX2_deliverFirst_78 : decode cX2_deliverFirst 78 = .ok (.invokevirtual 98, 3) := by decide +kernel
theorem dX2_deliverFirst_81 : decode cX2_deliverFirst 81 = .ok (.aload_n 0, 1) := by decide +kernel
theorem dX2_deliverFirst_82 : decode cX2_deliverFirst 82 = .ok (.getfield 25, 3) := by decide +kernel
theorem dX2_deliverFirst_85 : decode cX2_deliverFirst 85 = .ok (.iconst 0, 1) := by decide +kernel
theorem dX2_deliverFirst_86 : decode cX2_deliverFirst 86 = .ok (.iconst 2, 1) := by decide +kernel
theorem dX2_deliverFirst_87 : decode cX2_deliverFirst 87 = .ok (.invokevirtual 98, 3) := by decide +kernel
theorem dX2_deliverFirst_90 : decode cX2_deliverFirst 90 = .ok (.invokevirtual 124, 3) := by decide +kernel
theorem dX2_deliverFirst_93 : decode cX2_deliverFirst 93 = .ok (.aload_n 0, 1) := by decide +kernel
theorem dX2_deliverFirst_94 : decode cX2_deliverFirst 94 = .ok (.getfield 25, 3) := by decide +kernel
theorem dX2_deliverFirst_97 : decode cX2_deliverFirst 97 = .ok (.invokevirtual 121, 3) := by decide +kernel
theorem dX2_deliverFirst_100 : decode cX2_deliverFirst 100 = .ok (.aload_n 1, 1) := by decide +kernel
theorem dX2_deliverFirst_101 : decode cX2_deliverFirst 101 = .ok (.getfield 82, 3) := by decide +kernel
theorem dX2_deliverFirst_104 : decode cX2_deliverFirst 104 = .ok (.getfield 85, 3) := by decide +kernel
theorem dX2_deliverFirst_107 : decode cX2_deliverFirst 107 = .ok (.istore 4, 2) := by decide +kernel
theorem dX2_deliverFirst_109 : decode cX2_deliverFirst 109 = .ok (.aload_n 0, 1) := by decide +kernel
theorem dX2_deliverFirst_110 : decode cX2_deliverFirst 110 = .ok (.aload_n 1, 1) := by decide +kernel
theorem dX2_deliverFirst_111 : decode cX2_deliverFirst 111 = .ok (.iconst 1, 1) := by decide +kernel
theorem dX2_deliverFirst_112 : decode cX2_deliverFirst 112 = .ok (.aload_n 2, 1) := by decide +kernel
theorem dX2_deliverFirst_113 : decode cX2_deliverFirst 113 = .ok (.getfield 68, 3) := by decide +kernel
theorem dX2_deliverFirst_116 : decode cX2_deliverFirst 116 = .ok (.iload_n 3, 1) := by decide +kernel
theorem dX2_deliverFirst_117 : decode cX2_deliverFirst 117 = .ok (.invokevirtual 127, 3) := by decide +kernel
theorem dX2_deliverFirst_120 : decode cX2_deliverFirst 120 = .ok (.aload_n 2, 1) := by decide +kernel
theorem dX2_deliverFirst_121 : decode cX2_deliverFirst 121 = .ok (.aload_n 1, 1) := by decide +kernel
theorem dX2_deliverFirst_122 : decode cX2_deliverFirst 122 = .ok (.getfield 68, 3) := by decide +kernel
theorem dX2_deliverFirst_125 : decode cX2_deliverFirst 125 = .ok (.iload 4, 2) := by decide +kernel
theorem dX2_deliverFirst_127 : decode cX2_deliverFirst 127 = .ok (.aload_n 1, 1) := by decide +kernel
theorem dX2_deliverFirst_128 : decode cX2_deliverFirst 128 = .ok (.iload 4, 2) := by decide +kernel
theorem dX2_deliverFirst_130 : decode cX2_deliverFirst 130 = .ok (.iconst 1, 1) := by decide +kernel
theorem dX2_deliverFirst_131 : decode cX2_deliverFirst 131 = .ok (.iadd, 1) := by decide +kernel
theorem dX2_deliverFirst_132 : decode cX2_deliverFirst 132 = .ok (.invokevirtual 95, 3) := by decide +kernel
theorem dX2_deliverFirst_135 : decode cX2_deliverFirst 135 = .ok (.invokevirtual 124, 3) := by decide +kernel
theorem dX2_deliverFirst_138 : decode cX2_deliverFirst 138 = .ok (.return_, 1) := by decide +kernel
theorem dX2_judgeByAll_0 : decode cX2_judgeByAll 0 = .ok (.iconst 0, 1) := by decide +kernel
theorem dX2_judgeByAll_1 : decode cX2_judgeByAll 1 = .ok (.istore_n 2, 1) := by decide +kernel
theorem dX2_judgeByAll_2 : decode cX2_judgeByAll 2 = .ok (.iconst 0, 1) := by decide +kernel
theorem dX2_judgeByAll_3 : decode cX2_judgeByAll 3 = .ok (.istore_n 3, 1) := by decide +kernel
theorem dX2_judgeByAll_4 : decode cX2_judgeByAll 4 = .ok (.iload_n 3, 1) := by decide +kernel
theorem dX2_judgeByAll_5 : decode cX2_judgeByAll 5 = .ok (.aload_n 0, 1) := by decide +kernel
theorem dX2_judgeByAll_6 : decode cX2_judgeByAll 6 = .ok (.getfield 32, 3) := by decide +kernel
theorem dX2_judgeByAll_9 : decode cX2_judgeByAll 9 = .ok (.if_icmp .ge 51, 3) := by decide +kernel
theorem dX2_judgeByAll_12 : decode cX2_judgeByAll 12 = .ok (.aload_n 1, 1) := by decide +kernel
theorem dX2_judgeByAll_13 : decode cX2_judgeByAll 13 = .ok (.iload_n 3, 1) := by decide +kernel
theorem dX2_judgeByAll_14 : decode cX2_judgeByAll 14 = .ok (.invokevirtual 131, 3) := by decide +kernel
theorem dX2_judgeByAll_17 : decode cX2_judgeByAll 17 = .ok (.ifCond .eq 37, 3) := by decide +kernel
theorem dX2_judgeByAll_20 : decode cX2_judgeByAll 20 = .ok (.aload_n 1, 1) := by decide +kernel
theorem dX2_judgeByAll_21 : decode cX2_judgeByAll 21 = .ok (.getfield 134, 3) := by decide +kernel
theorem dX2_judgeByAll_24 : decode cX2_judgeByAll 24 = .ok (.iload_n 3, 1) := by decide +kernel
theorem dX2_judgeByAll_25 : decode cX2_judgeByAll 25 = .ok (.iaload, 1) := by decide +kernel
theorem dX2_judgeByAll_26 : decode cX2_judgeByAll 26 = .ok (.istore 4, 2) := by decide +kernel
theorem dX2_judgeByAll_28 : decode cX2_judgeByAll 28 = .ok (.aload_n 1, 1) := by decide +kernel
theorem dX2_judgeByAll_29 : decode cX2_judgeByAll 29 = .ok (.getfield 134, 3) := by decide +kernel
theorem dX2_judgeByAll_32 : decode cX2_judgeByAll 32 = .ok (.iload_n 3, 1) := by decide +kernel
theorem dX2_judgeByAll_33 : decode cX2_judgeByAll 33 = .ok (.aload_n 0, 1) := by decide +kernel
theorem dX2_judgeByAll_34 : decode cX2_judgeByAll 34 = .ok (.iload_n 3, 1) := by decide +kernel
theorem dX2_judgeByAll_35 : decode cX2_judgeByAll 35 = .ok (.aload_n 1, 1) := by decide +kernel
theorem dX2_judgeByAll_36 : decode cX2_judgeByAll 36 = .ok (.invokevirtual 138, 3) := by decide +kernel
theorem dX2_judgeByAll_39 : decode cX2_judgeByAll 39 = .ok (.iastore, 1) := by decide +kernel
theorem dX2_judgeByAll_40 : decode cX2_judgeByAll 40 = .ok (.aload_n 1, 1) := by decide +kernel
theorem dX2_judgeByAll_41 : decode cX2_judgeByAll 41 = .ok (.getfield 134, 3) := by decide +kernel
theorem dX2_judgeByAll_44 : decode cX2_judgeByAll 44 = .ok (.iload_n 3, 1) := by decide +kernel
theorem dX2_judgeByAll_45 : decode cX2_judgeByAll 45 = .ok (.iaload, 1) := by decide +kernel
theorem dX2_judgeByAll_46 : decode cX2_judgeByAll 46 = .ok (.iload 4, 2) := by decide +kernel
theorem dX2_judgeByAll_48 : decode cX2_judgeByAll 48 = .ok (.if_icmp .eq 6, 3) := by decide +kernel
theorem dX2_judgeByAll_51 : decode cX2_judgeByAll 51 = .ok (.iinc 2 1, 3) := by decide +kernel
theorem dX2_judgeByAll_54 : decode cX2_judgeByAll 54 = .ok (.iinc 3 1, 3) := by decide +kernel
theorem dX2_judgeByAll_57 : decode cX2_judgeByAll 57 = .ok (.goto (-53), 3) := by decide +kernel
theorem dX2_judgeByAll_60 : decode cX2_judgeByAll 60 = .ok (.iload_n 2, 1) := by decide +kernel
theorem dX2_judgeByAll_61 : decode cX2_judgeByAll 61 = .ok (.ireturn, 1) := by decide +kernel
theorem dX2_judge_0 : decode cX2_judge 0 = .ok (.aload_n 2, 1) := by decide +kernel
theorem dX2_judge_1 : decode cX2_judge 1 = .ok (.getfield 134, 3) := by decide +kernel
theorem dX2_judge_4 : decode cX2_judge 4 = .ok (.iload_n 1, 1) := by decide +kernel
theorem dX2_judge_5 : decode cX2_judge 5 = .ok (.iaload, 1) := by decide +kernel
theorem dX2_judge_6 : decode cX2_judge 6 = .ok (.iconst 2, 1) := by decide +kernel
theorem dX2_judge_7 : decode cX2_judge 7 = .ok (.if_icmp .ne 5, 3) := by decide +kernel
theorem dX2_judge_10 : decode cX2_judge 10 = .ok (.iconst 2, 1) := by decide +kernel
theorem dX2_judge_11 : decode cX2_judge 11 = .ok (.ireturn, 1) := by decide +kernel
theorem dX2_judge_12 : decode cX2_judge 12 = .ok (.aload_n 2, 1) := by decide +kernel
theorem dX2_judge_13 : decode cX2_judge 13 = .ok (.getfield 108, 3) := by decide +kernel
theorem dX2_judge_16 : decode cX2_judge 16 = .ok (.ifCond .eq 5, 3) := by decide +kernel
theorem dX2_judge_19 : decode cX2_judge 19 = .ok (.iconst 1, 1) := by decide +kernel
theorem dX2_judge_20 : decode cX2_judge 20 = .ok (.ireturn, 1) := by decide +kernel
theorem dX2_judge_21 : decode cX2_judge 21 = .ok (.aload_n 0, 1) := by decide +kernel
theorem dX2_judge_22 : decode cX2_judge 22 = .ok (.aload_n 2, 1) := by decide +kernel
theorem dX2_judge_23 : decode cX2_judge 23 = .ok (.invokevirtual 142, 3) := by decide +kernel
theorem dX2_judge_26 : decode cX2_judge 26 = .ok (.istore_n 3, 1) := by decide +kernel
theorem dX2_judge_27 : decode cX2_judge 27 = .ok (.iload_n 3, 1) := by decide +kernel
theorem dX2_judge_28 : decode cX2_judge 28 = .ok (.iconst (-1), 1) := by decide +kernel
theorem dX2_judge_29 : decode cX2_judge 29 = .ok (.if_icmp .eq 16, 3) := by decide +kernel
theorem dX2_judge_32 : decode cX2_judge 32 = .ok (.aload_n 0, 1) := by decide +kernel
theorem dX2_judge_33 : decode cX2_judge 33 = .ok (.iconst 0, 1) := by decide +kernel
theorem dX2_judge_34 : decode cX2_judge 34 = .ok (.aload_n 2, 1) := by decide +kernel
theorem dX2_judge_35 : decode cX2_judge 35 = .ok (.getfield 68, 3) := by decide +kernel
theorem dX2_judge_38 : decode cX2_judge 38 = .ok (.iload_n 1, 1) := by decide +kernel
theorem dX2_judge_39 : decode cX2_judge 39 = .ok (.iload_n 3, 1) := by decide +kernel
theorem dX2_judge_40 : decode cX2_judge 40 = .ok (.invokevirtual 146, 3) := by decide +kernel
theorem dX2_judge_43 : decode cX2_judge 43 = .ok (.iconst 2, 1) := by decide +kernel
theorem dX2_judge_44 : decode cX2_judge 44 = .ok (.ireturn, 1) := by decide +kernel
theorem dX2_judge_45 : decode cX2_judge 45 = .ok (.aload_n 2, 1) := by decide +kernel
theorem dX2_judge_46 : decode cX2_judge 46 = .ok (.aload_n 0, 1) := by decide +kernel
theorem dX2_judge_47 : decode cX2_judge 47 = .ok (.getfield 32, 3) := by decide +kernel
theorem dX2_judge_50 : decode cX2_judge 50 = .ok (.invokevirtual 150, 3) := by decide +kernel
theorem dX2_judge_53 : decode cX2_judge 53 = .ok (.istore_n 3, 1) := by decide +kernel
theorem dX2_judge_54 : decode cX2_judge 54 = .ok (.iload_n 3, 1) := by decide +kernel
theorem dX2_judge_55 : decode cX2_judge 55 = .ok (.iconst (-1), 1) := by decide +kernel
theorem dX2_judge_56 : decode cX2_judge 56 = .ok (.if_icmp .eq 16, 3) := by decide +kernel
theorem dX2_judge_59 : decode cX2_judge 59 = .ok (.aload_n 0, 1) := by decide +kernel
theorem dX2_judge_60 : decode cX2_judge 60 = .ok (.iconst 1, 1) := by decide +kernel
theorem dX2_judge_61 : decode cX2_judge 61 = .ok (.aload_n 2, 1) := by decide +kernel
theorem dX2_judge_62 : decode cX2_judge 62 = .ok (.getfield 68, 3) := by decide +kernel
theorem dX2_judge_65 : decode cX2_judge 65 = .ok (.iload_n 1, 1) := by decide +kernel
theorem dX2_judge_66 : decode cX2_judge 66 = .ok (.iload_n 3, 1) := by decide +kernel
theorem dX2_judge_67 : decode cX2_judge 67 = .ok (.invokevirtual 146, 3) := by decide +kernel
theorem dX2_judge_70 : decode cX2_judge 70 = .ok (.iconst 2, 1) := by decide +kernel
theorem dX2_judge_71 : decode cX2_judge 71 = .ok (.ireturn, 1) := by decide +kernel
theorem dX2_judge_72 : decode cX2_judge 72 = .ok (.aload_n 2, 1) := by decide +kernel
theorem dX2_judge_73 : decode cX2_judge 73 = .ok (.getfield 114, 3) := by decide +kernel
theorem dX2_judge_76 : decode cX2_judge 76 = .ok (.getfield 85, 3) := by decide +kernel
theorem dX2_judge_79 : decode cX2_judge 79 = .ok (.ifCond .le 7, 3) := by decide +kernel
theorem dX2_judge_82 : decode cX2_judge 82 = .ok (.iconst 1, 1) := by decide +kernel
theorem dX2_judge_83 : decode cX2_judge 83 = .ok (.goto 4, 3) := by decide +kernel
theorem dX2_judge_86 : decode cX2_judge 86 = .ok (.iconst 0, 1) := by decide +kernel
theorem dX2_judge_87 : decode cX2_judge 87 = .ok (.ireturn, 1) := by decide +kernel
theorem dX2_beliedEntry_0 : decode cX2_beliedEntry 0 = .ok (.iconst 0, 1) := by decide +kernel
theorem dX2_beliedEntry_1 : decode cX2_beliedEntry 1 = .ok (.istore_n 2, 1) := by decide +kernel
theorem dX2_beliedEntry_2 : decode cX2_beliedEntry 2 = .ok (.iload_n 2, 1) := by decide +kernel
theorem dX2_beliedEntry_3 : decode cX2_beliedEntry 3 = .ok (.aload_n 0, 1) := by decide +kernel
theorem dX2_beliedEntry_4 : decode cX2_beliedEntry 4 = .ok (.getfield 32, 3) := by decide +kernel
theorem dX2_beliedEntry_7 : decode cX2_beliedEntry 7 = .ok (.if_icmp .ge 39, 3) := by decide +kernel
theorem dX2_beliedEntry_10 : decode cX2_beliedEntry 10 = .ok (.aload_n 0, 1) := by decide +kernel
theorem dX2_beliedEntry_11 : decode cX2_beliedEntry 11 = .ok (.getfield 11, 3) := by decide +kernel
theorem dX2_beliedEntry_14 : decode cX2_beliedEntry 14 = .ok (.iload_n 2, 1) := by decide +kernel
theorem dX2_beliedEntry_15 : decode cX2_beliedEntry 15 = .ok (.aaload, 1) := by decide +kernel
theorem dX2_beliedEntry_16 : decode cX2_beliedEntry 16 = .ok (.getfield 108, 3) := by decide +kernel
theorem dX2_beliedEntry_19 : decode cX2_beliedEntry 19 = .ok (.ifCond .ne 21, 3) := by decide +kernel
theorem dX2_beliedEntry_22 : decode cX2_beliedEntry 22 = .ok (.aload_n 0, 1) := by decide +kernel
theorem dX2_beliedEntry_23 : decode cX2_beliedEntry 23 = .ok (.getfield 11, 3) := by decide +kernel
theorem dX2_beliedEntry_26 : decode cX2_beliedEntry 26 = .ok (.iload_n 2, 1) := by decide +kernel
theorem dX2_beliedEntry_27 : decode cX2_beliedEntry 27 = .ok (.aaload, 1) := by decide +kernel
theorem dX2_beliedEntry_28 : decode cX2_beliedEntry 28 = .ok (.aload_n 1, 1) := by decide +kernel
theorem dX2_beliedEntry_29 : decode cX2_beliedEntry 29 = .ok (.invokevirtual 153, 3) := by decide +kernel
theorem dX2_beliedEntry_32 : decode cX2_beliedEntry 32 = .ok (.istore_n 3, 1) := by decide +kernel
theorem dX2_beliedEntry_33 : decode cX2_beliedEntry 33 = .ok (.iload_n 3, 1) := by decide +kernel
theorem dX2_beliedEntry_34 : decode cX2_beliedEntry 34 = .ok (.iconst (-1), 1) := by decide +kernel
theorem dX2_beliedEntry_35 : decode cX2_beliedEntry 35 = .ok (.if_icmp .eq 5, 3) := by decide +kernel
theorem dX2_beliedEntry_38 : decode cX2_beliedEntry 38 = .ok (.iload_n 3, 1) := by decide +kernel
theorem dX2_beliedEntry_39 : decode cX2_beliedEntry 39 = .ok (.ireturn, 1) := by decide +kernel
theorem dX2_beliedEntry_40 : decode cX2_beliedEntry 40 = .ok (.iinc 2 1, 3) := by decide +kernel
theorem dX2_beliedEntry_43 : decode cX2_beliedEntry 43 = .ok (.goto (-41), 3) := by decide +kernel
theorem dX2_beliedEntry_46 : decode cX2_beliedEntry 46 = .ok (.iconst (-1), 1) := by decide +kernel
theorem dX2_beliedEntry_47 : decode cX2_beliedEntry 47 = .ok (.ireturn, 1) := by decide +kernel
theorem dX2_addEvidence_0 : decode cX2_addEvidence 0 = .ok (.aload_n 0, 1) := by decide +kernel
theorem dX2_addEvidence_1 : decode cX2_addEvidence 1 = .ok (.getfield 29, 3) := by decide +kernel
theorem dX2_addEvidence_4 : decode cX2_addEvidence 4 = .ok (.invokevirtual 88, 3) := by decide +kernel
theorem dX2_addEvidence_7 : decode cX2_addEvidence 7 = .ok (.istore 5, 2) := by decide +kernel
theorem dX2_addEvidence_9 : decode cX2_addEvidence 9 = .ok (.aload_n 0, 1) := by decide +kernel
theorem dX2_addEvidence_10 : decode cX2_addEvidence 10 = .ok (.getfield 29, 3) := by decide +kernel
theorem dX2_addEvidence_13 : decode cX2_addEvidence 13 = .ok (.iload 5, 2) := by decide +kernel
theorem dX2_addEvidence_15 : decode cX2_addEvidence 15 = .ok (.iconst 0, 1) := by decide +kernel
theorem dX2_addEvidence_16 : decode cX2_addEvidence 16 = .ok (.iload_n 1, 1) := by decide +kernel
theorem dX2_addEvidence_17 : decode cX2_addEvidence 17 = .ok (.invokevirtual 92, 3) := by decide +kernel
theorem dX2_addEvidence_20 : decode cX2_addEvidence 20 = .ok (.aload_n 0, 1) := by decide +kernel
theorem dX2_addEvidence_21 : decode cX2_addEvidence 21 = .ok (.getfield 29, 3) := by decide +kernel
theorem dX2_addEvidence_24 : decode cX2_addEvidence 24 = .ok (.iload 5, 2) := by decide +kernel
theorem dX2_addEvidence_26 : decode cX2_addEvidence 26 = .ok (.iconst 1, 1) := by decide +kernel
theorem dX2_addEvidence_27 : decode cX2_addEvidence 27 = .ok (.iload_n 2, 1) := by decide +kernel
theorem dX2_addEvidence_28 : decode cX2_addEvidence 28 = .ok (.invokevirtual 92, 3) := by decide +kernel
theorem dX2_addEvidence_31 : decode cX2_addEvidence 31 = .ok (.aload_n 0, 1) := by decide +kernel
theorem dX2_addEvidence_32 : decode cX2_addEvidence 32 = .ok (.getfield 29, 3) := by decide +kernel
theorem dX2_addEvidence_35 : decode cX2_addEvidence 35 = .ok (.iload 5, 2) := by decide +kernel
theorem dX2_addEvidence_37 : decode cX2_addEvidence 37 = .ok (.iconst 2, 1) := by decide +kernel
theorem dX2_addEvidence_38 : decode cX2_addEvidence 38 = .ok (.iload_n 3, 1) := by decide +kernel
theorem dX2_addEvidence_39 : decode cX2_addEvidence 39 = .ok (.invokevirtual 92, 3) := by decide +kernel
theorem dX2_addEvidence_42 : decode cX2_addEvidence 42 = .ok (.aload_n 0, 1) := by decide +kernel
theorem dX2_addEvidence_43 : decode cX2_addEvidence 43 = .ok (.getfield 29, 3) := by decide +kernel
theorem dX2_addEvidence_46 : decode cX2_addEvidence 46 = .ok (.iload 5, 2) := by decide +kernel
theorem dX2_addEvidence_48 : decode cX2_addEvidence 48 = .ok (.iconst 3, 1) := by decide +kernel
theorem dX2_addEvidence_49 : decode cX2_addEvidence 49 = .ok (.iload 4, 2) := by decide +kernel
theorem dX2_addEvidence_51 : decode cX2_addEvidence 51 = .ok (.invokevirtual 92, 3) := by decide +kernel
theorem dX2_addEvidence_54 : decode cX2_addEvidence 54 = .ok (.return_, 1) := by decide +kernel
theorem dX2_someWitnessSays_0 : decode cX2_someWitnessSays 0 = .ok (.iconst 0, 1) := by decide +kernel
theorem dX2_someWitnessSays_1 : decode cX2_someWitnessSays 1 = .ok (.istore_n 3, 1) := by decide +kernel
theorem dX2_someWitnessSays_2 : decode cX2_someWitnessSays 2 = .ok (.iload_n 3, 1) := by decide +kernel
theorem dX2_someWitnessSays_3 : decode cX2_someWitnessSays 3 = .ok (.aload_n 0, 1) := by decide +kernel
theorem dX2_someWitnessSays_4 : decode cX2_someWitnessSays 4 = .ok (.getfield 32, 3) := by decide +kernel
theorem dX2_someWitnessSays_7 : decode cX2_someWitnessSays 7 = .ok (.if_icmp .ge 29, 3) := by decide +kernel
theorem dX2_someWitnessSays_10 : decode cX2_someWitnessSays 10 = .ok (.aload_n 1, 1) := by decide +kernel
theorem dX2_someWitnessSays_11 : decode cX2_someWitnessSays 11 = .ok (.iload_n 3, 1) := by decide +kernel
theorem dX2_someWitnessSays_12 : decode cX2_someWitnessSays 12 = .ok (.invokevirtual 131, 3) := by decide +kernel
theorem dX2_someWitnessSays_15 : decode cX2_someWitnessSays 15 = .ok (.ifCond .eq 15, 3) := by decide +kernel
theorem dX2_someWitnessSays_18 : decode cX2_someWitnessSays 18 = .ok (.aload_n 1, 1) := by decide +kernel
theorem dX2_someWitnessSays_19 : decode cX2_someWitnessSays 19 = .ok (.getfield 134, 3) := by decide +kernel
theorem dX2_someWitnessSays_22 : decode cX2_someWitnessSays 22 = .ok (.iload_n 3, 1) := by decide +kernel
theorem dX2_someWitnessSays_23 : decode cX2_someWitnessSays 23 = .ok (.iaload, 1) := by decide +kernel
theorem dX2_someWitnessSays_24 : decode cX2_someWitnessSays 24 = .ok (.iload_n 2, 1) := by decide +kernel
theorem dX2_someWitnessSays_25 : decode cX2_someWitnessSays 25 = .ok (.if_icmp .ne 5, 3) := by decide +kernel
theorem dX2_someWitnessSays_28 : decode cX2_someWitnessSays 28 = .ok (.iconst 1, 1) := by decide +kernel
theorem dX2_someWitnessSays_29 : decode cX2_someWitnessSays 29 = .ok (.ireturn, 1) := by decide +kernel
theorem dX2_someWitnessSays_30 : decode cX2_someWitnessSays 30 = .ok (.iinc 3 1, 3) := by decide +kernel
theorem dX2_someWitnessSays_33 : decode cX2_someWitnessSays 33 = .ok (.goto (-31), 3) := by decide +kernel
theorem dX2_someWitnessSays_36 : decode cX2_someWitnessSays 36 = .ok (.iconst 0, 1) := by decide +kernel
theorem dX2_someWitnessSays_37 : decode cX2_someWitnessSays 37 = .ok (.ireturn, 1) := by decide +kernel
end
section
theorem dX3_init_0 : decode cX3_init 0 = .ok (.aload_n 0, 1) := by decide +kernel
theorem dX3_init_1 : decode cX3_init 1 = .ok (.invokespecial 3, 3) := by decide +kernel
theorem dX3_init_4 : decode cX3_init 4 = .ok (.aload_n 0, 1) := by decide +kernel
theorem dX3_init_5 : decode cX3_init 5 = .ok (.new 9, 3) := by decide +kernel
theorem dX3_init_8 : decode cX3_init 8 = .ok (.dup, 1) := by decide +kernel
theorem dX3_init_9 : decode cX3_init 9 = .ok (.invokespecial 11, 3) := by decide +kernel
theorem dX3_init_12 : decode cX3_init 12 = .ok (.putfield 12, 3) := by decide +kernel
theorem dX3_init_15 : decode cX3_init 15 = .ok (.aload_n 0, 1) := by decide +kernel
theorem dX3_init_16 : decode cX3_init 16 = .ok (.getfield 12, 3) := by decide +kernel
theorem dX3_init_19 : decode cX3_init 19 = .ok (.iconst 3, 1) := by decide +kernel
theorem dX3_init_20 : decode cX3_init 20 = .ok (.invokevirtual 16, 3) := by decide +kernel
theorem dX3_init_23 : decode cX3_init 23 = .ok (.aload_n 0, 1) := by decide +kernel
theorem dX3_init_24 : decode cX3_init 24 = .ok (.iconst 4, 1) := by decide +kernel
theorem dX3_init_25 : decode cX3_init 25 = .ok (.anewarray 9, 3) := by decide +kernel
theorem dX3_init_28 : decode cX3_init 28 = .ok (.putfield 20, 3) := by decide +kernel
theorem dX3_init_31 : decode cX3_init 31 = .ok (.iconst 0, 1) := by decide +kernel
theorem dX3_init_32 : decode cX3_init 32 = .ok (.istore_n 1, 1) := by decide +kernel
theorem dX3_init_33 : decode cX3_init 33 = .ok (.iload_n 1, 1) := by decide +kernel
theorem dX3_init_34 : decode cX3_init 34 = .ok (.iconst 4, 1) := by decide +kernel
theorem dX3_init_35 : decode cX3_init 35 = .ok (.if_icmp .ge 22, 3) := by decide +kernel
theorem dX3_init_38 : decode cX3_init 38 = .ok (.aload_n 0, 1) := by decide +kernel
theorem dX3_init_39 : decode cX3_init 39 = .ok (.getfield 20, 3) := by decide +kernel
theorem dX3_init_42 : decode cX3_init 42 = .ok (.iload_n 1, 1) := by decide +kernel
theorem dX3_init_43 : decode cX3_init 43 = .ok (.new 9, 3) := by decide +kernel
theorem dX3_init_46 : decode cX3_init 46 = .ok (.dup, 1) := by decide +kernel
theorem dX3_init_47 : decode cX3_init 47 = .ok (.invokespecial 11, 3) := by decide +kernel
theorem dX3_init_50 : decode cX3_init 50 = .ok (.aastore, 1) := by decide +kernel
theorem dX3_init_51 : decode cX3_init 51 = .ok (.iinc 1 1, 3) := by decide +kernel
theorem dX3_init_54 : decode cX3_init 54 = .ok (.goto (-21), 3) := by decide +kernel
theorem dX3_init_57 : decode cX3_init 57 = .ok (.return_, 1) := by decide +kernel
theorem dX3_reset_0 : decode cX3_reset 0 = .ok (.iload_n 1, 1) := by decide +kernel
theorem dX3_reset_1 : decode cX3_reset 1 = .ok (.iconst 2, 1) := by decide +kernel
theorem dX3_reset_2 : decode cX3_reset 2 = .ok (.if_icmp .lt 9, 3) := by decide +kernel
theorem dX3_reset_5 : decode cX3_reset 5 = .ok (.iload_n 1, 1) := by decide +kernel
theorem dX3_reset_6 : decode cX3_reset 6 = .ok (.bipush 6, 2) := by decide +kernel
theorem dX3_reset_8 : decode cX3_reset 8 = .ok (.if_icmp .le 13, 3) := by decide +kernel
theorem dX3_reset_11 : decode cX3_reset 11 = .ok (.new 24, 3) := by decide +kernel
theorem dX3_reset_14 : decode cX3_reset 14 = .ok (.dup, 1) := by decide +kernel
theorem dX3_reset_15 : decode cX3_reset 15 = .ok (.ldc 26, 2) := by decide +kernel
theorem dX3_reset_17 : decode cX3_reset 17 = .ok (.invokespecial 28, 3) := by decide +kernel
theorem dX3_reset_20 : decode cX3_reset 20 = .ok (.athrow, 1) := by decide +kernel
theorem dX3_reset_21 : decode cX3_reset 21 = .ok (.aload_n 0, 1) := by decide +kernel
theorem dX3_reset_22 : decode cX3_reset 22 = .ok (.invokevirtual 31, 3) := by decide +kernel
theorem dX3_reset_25 : decode cX3_reset 25 = .ok (.aload_n 0, 1) := by decide +kernel
theorem dX3_reset_26 : decode cX3_reset 26 = .ok (.getfield 12, 3) := by decide +kernel
theorem dX3_reset_29 : decode cX3_reset 29 = .ok (.getfield 34, 3) := by decide +kernel
theorem dX3_reset_32 : decode cX3_reset 32 = .ok (.istore_n 2, 1) := by decide +kernel
theorem dX3_reset_33 : decode cX3_reset 33 = .ok (.aload_n 0, 1) := by decide +kernel
theorem dX3_reset_34 : decode cX3_reset 34 = .ok (.getfield 12, 3) := by decide +kernel
theorem dX3_reset_37 : decode cX3_reset 37 = .ok (.iload_n 1, 1) := by decide +kernel
theorem dX3_reset_38 : decode cX3_reset 38 = .ok (.invokevirtual 16, 3) := by decide +kernel
theorem dX3_reset_41 : decode cX3_reset 41 = .ok (.iload_n 2, 1) := by decide +kernel
theorem dX3_reset_42 : decode cX3_reset 42 = .ok (.ireturn, 1) := by decide +kernel
theorem dX3_input_0 : decode cX3_input 0 = .ok (.aload_n 0, 1) := by decide +kernel
theorem dX3_input_1 : decode cX3_input 1 = .ok (.iload_n 1, 1) := by decide +kernel
theorem dX3_input_2 : decode cX3_input 2 = .ok (.invokevirtual 38, 3) := by decide +kernel
theorem dX3_input_5 : decode cX3_input 5 = .ok (.iload_n 2, 1) := by decide +kernel
theorem dX3_input_6 : decode cX3_input 6 = .ok (.invokestatic 41, 3) := by decide +kernel
theorem dX3_input_9 : decode cX3_input 9 = .ok (.aload_n 0, 1) := by decide +kernel
theorem dX3_input_10 : decode cX3_input 10 = .ok (.getfield 12, 3) := by decide +kernel
theorem dX3_input_13 : decode cX3_input 13 = .ok (.getfield 44, 3) := by decide +kernel
theorem dX3_input_16 : decode cX3_input 16 = .ok (.iload_n 1, 1) := by decide +kernel
theorem dX3_input_17 : decode cX3_input 17 = .ok (.aaload, 1) := by decide +kernel
theorem dX3_input_18 : decode cX3_input 18 = .ok (.astore_n 3, 1) := by decide +kernel
theorem dX3_input_19 : decode cX3_input 19 = .ok (.aload_n 3, 1) := by decide +kernel
theorem dX3_input_20 : decode cX3_input 20 = .ok (.aload_n 0, 1) := by decide +kernel
theorem dX3_input_21 : decode cX3_input 21 = .ok (.getfield 12, 3) := by decide +kernel
theorem dX3_input_24 : decode cX3_input 24 = .ok (.getfield 48, 3) := by decide +kernel
theorem dX3_input_27 : decode cX3_input 27 = .ok (.getfield 52, 3) := by decide +kernel
theorem dX3_input_30 : decode cX3_input 30 = .ok (.invokevirtual 57, 3) := by decide +kernel
theorem dX3_input_33 : decode cX3_input 33 = .ok (.ifCond .ne 13, 3) := by decide +kernel
theorem dX3_input_36 : decode cX3_input 36 = .ok (.new 63, 3) := by decide +kernel
theorem dX3_input_39 : decode cX3_input 39 = .ok (.dup, 1) := by decide +kernel
theorem dX3_input_40 : decode cX3_input 40 = .ok (.ldc 65, 2) := by decide +kernel
theorem dX3_input_42 : decode cX3_input 42 = .ok (.invokespecial 67, 3) := by decide +kernel
theorem dX3_input_45 : decode cX3_input 45 = .ok (.athrow, 1) := by decide +kernel
theorem dX3_input_46 : decode cX3_input 46 = .ok (.aload_n 0, 1) := by decide +kernel
theorem dX3_input_47 : decode cX3_input 47 = .ok (.invokevirtual 31, 3) := by decide +kernel
theorem dX3_input_50 : decode cX3_input 50 = .ok (.aload_n 0, 1) := by decide +kernel
theorem dX3_input_51 : decode cX3_input 51 = .ok (.getfield 12, 3) := by decide +kernel
theorem dX3_input_54 : decode cX3_input 54 = .ok (.aload_n 3, 1) := by decide +kernel
theorem dX3_input_55 : decode cX3_input 55 = .ok (.iconst 0, 1) := by decide +kernel
theorem dX3_input_56 : decode cX3_input 56 = .ok (.iconst (-1), 1) := by decide +kernel
theorem dX3_input_57 : decode cX3_input 57 = .ok (.iload_n 2, 1) := by decide +kernel
theorem dX3_input_58 : decode cX3_input 58 = .ok (.invokevirtual 68, 3) := by decide +kernel
theorem dX3_input_61 : decode cX3_input 61 = .ok (.aload_n 3, 1) := by decide +kernel
theorem dX3_input_62 : decode cX3_input 62 = .ok (.getfield 72, 3) := by decide +kernel
theorem dX3_input_65 : decode cX3_input 65 = .ok (.ireturn, 1) := by decide +kernel
theorem dX3_deliver_0 : decode cX3_deliver 0 = .ok (.aload_n 0, 1) := by decide +kernel
theorem dX3_deliver_1 : decode cX3_deliver 1 = .ok (.getfield 12, 3) := by decide +kernel
theorem dX3_deliver_4 : decode cX3_deliver 4 = .ok (.invokevirtual 75, 3) := by decide +kernel
theorem dX3_deliver_7 : decode cX3_deliver 7 = .ok (.istore_n 1, 1) := by decide +kernel
theorem dX3_deliver_8 : decode cX3_deliver 8 = .ok (.iload_n 1, 1) := by decide +kernel
theorem dX3_deliver_9 : decode cX3_deliver 9 = .ok (.iconst (-1), 1) := by decide +kernel
theorem dX3_deliver_10 : decode cX3_deliver 10 = .ok (.if_icmp .ne 5, 3) := by decide +kernel
theorem dX3_deliver_13 : decode cX3_deliver 13 = .ok (.iconst (-1), 1) := by decide +kernel
theorem dX3_deliver_14 : decode cX3_deliver 14 = .ok (.ireturn, 1) := by decide +kernel
theorem dX3_deliver_15 : decode cX3_deliver 15 = .ok (.aload_n 0, 1) := by decide +kernel
theorem dX3_deliver_16 : decode cX3_deliver 16 = .ok (.getfield 12, 3) := by decide +kernel
theorem dX3_deliver_19 : decode cX3_deliver 19 = .ok (.invokevirtual 79, 3) := by decide +kernel
theorem dX3_deliver_22 : decode cX3_deliver 22 = .ok (.ifCond .ne 13, 3) := by decide +kernel
theorem dX3_deliver_25 : decode cX3_deliver 25 = .ok (.new 63, 3) := by decide +kernel
theorem dX3_deliver_28 : decode cX3_deliver 28 = .ok (.dup, 1) := by decide +kernel
theorem dX3_deliver_29 : decode cX3_deliver 29 = .ok (.ldc 83, 2) := by decide +kernel
theorem dX3_deliver_31 : decode cX3_deliver 31 = .ok (.invokespecial 67, 3) := by decide +kernel
theorem dX3_deliver_34 : decode cX3_deliver 34 = .ok (.athrow, 1) := by decide +kernel
theorem dX3_deliver_35 : decode cX3_deliver 35 = .ok (.aload_n 0, 1) := by decide +kernel
theorem dX3_deliver_36 : decode cX3_deliver 36 = .ok (.invokevirtual 31, 3) := by decide +kernel
theorem dX3_deliver_39 : decode cX3_deliver 39 = .ok (.aload_n 0, 1) := by decide +kernel
theorem dX3_deliver_40 : decode cX3_deliver 40 = .ok (.getfield 12, 3) := by decide +kernel
theorem dX3_deliver_43 : decode cX3_deliver 43 = .ok (.invokevirtual 85, 3) := by decide +kernel
theorem dX3_deliver_46 : decode cX3_deliver 46 = .ok (.iload_n 1, 1) := by decide +kernel
theorem dX3_deliver_47 : decode cX3_deliver 47 = .ok (.ireturn, 1) := by decide +kernel
theorem dX3_run_0 : decode cX3_run 0 = .ok (.iload_n 1, 1) := by decide +kernel
theorem dX3_run_1 : decode cX3_run 1 = .ok (.iconst 1, 1) := by decide +kernel
theorem dX3_run_2 : decode cX3_run 2 = .ok (.if_icmp .lt 9, 3) := by decide +kernel
theorem dX3_run_5 : decode cX3_run 5 = .ok (.iload_n 1, 1) := by decide +kernel
theorem dX3_run_6 : decode cX3_run 6 = .ok (.bipush 100, 2) := by decide +kernel
theorem dX3_run_8 : decode cX3_run 8 = .ok (.if_icmp .le 13, 3) := by decide +kernel
theorem dX3_run_11 : decode cX3_run 11 = .ok (.new 24, 3) := by decide +kernel
theorem dX3_run_14 : decode cX3_run 14 = .ok (.dup, 1) := by decide +kernel
theorem dX3_run_15 : decode cX3_run 15 = .ok (.ldc 88, 2) := by decide +kernel
theorem dX3_run_17 : decode cX3_run 17 = .ok (.invokespecial 28, 3) := by decide +kernel
theorem dX3_run_20 : decode cX3_run 20 = .ok (.athrow, 1) := by decide +kernel
theorem dX3_run_21 : decode cX3_run 21 = .ok (.aload_n 0, 1) := by decide +kernel
theorem dX3_run_22 : decode cX3_run 22 = .ok (.invokevirtual 31, 3) := by decide +kernel
theorem dX3_run_25 : decode cX3_run 25 = .ok (.iconst 0, 1) := by decide +kernel
theorem dX3_run_26 : decode cX3_run 26 = .ok (.istore_n 2, 1) := by decide +kernel
theorem dX3_run_27 : decode cX3_run 27 = .ok (.iload_n 2, 1) := by decide +kernel
theorem dX3_run_28 : decode cX3_run 28 = .ok (.iload_n 1, 1) := by decide +kernel
theorem dX3_run_29 : decode cX3_run 29 = .ok (.if_icmp .ge 26, 3) := by decide +kernel
theorem dX3_run_32 : decode cX3_run 32 = .ok (.aload_n 0, 1) := by decide +kernel
theorem dX3_run_33 : decode cX3_run 33 = .ok (.getfield 12, 3) := by decide +kernel
theorem dX3_run_36 : decode cX3_run 36 = .ok (.invokevirtual 79, 3) := by decide +kernel
theorem dX3_run_39 : decode cX3_run 39 = .ok (.ifCond .eq 16, 3) := by decide +kernel
theorem dX3_run_42 : decode cX3_run 42 = .ok (.aload_n 0, 1) := by decide +kernel
theorem dX3_run_43 : decode cX3_run 43 = .ok (.getfield 12, 3) := by decide +kernel
theorem dX3_run_46 : decode cX3_run 46 = .ok (.invokevirtual 85, 3) := by decide +kernel
theorem dX3_run_49 : decode cX3_run 49 = .ok (.iinc 2 1, 3) := by decide +kernel
theorem dX3_run_52 : decode cX3_run 52 = .ok (.goto (-25), 3) := by decide +kernel
theorem dX3_run_55 : decode cX3_run 55 = .ok (.iload_n 2, 1) := by decide +kernel
theorem dX3_run_56 : decode cX3_run 56 = .ok (.ireturn, 1) := by decide +kernel
theorem dX3_queued_0 : decode cX3_queued 0 = .ok (.aload_n 0, 1) := by decide +kernel
theorem dX3_queued_1 : decode cX3_queued 1 = .ok (.getfield 12, 3) := by decide +kernel
theorem dX3_queued_4 : decode cX3_queued 4 = .ok (.getfield 48, 3) := by decide +kernel
theorem dX3_queued_7 : decode cX3_queued 7 = .ok (.getfield 52, 3) := by decide +kernel
theorem dX3_queued_10 : decode cX3_queued 10 = .ok (.ireturn, 1) := by decide +kernel
theorem dX3_state_0 : decode cX3_state 0 = .ok (.aload_n 0, 1) := by decide +kernel
theorem dX3_state_1 : decode cX3_state 1 = .ok (.iload_n 1, 1) := by decide +kernel
theorem dX3_state_2 : decode cX3_state 2 = .ok (.invokevirtual 38, 3) := by decide +kernel
theorem dX3_state_5 : decode cX3_state 5 = .ok (.aload_n 0, 1) := by decide +kernel
theorem dX3_state_6 : decode cX3_state 6 = .ok (.getfield 12, 3) := by decide +kernel
theorem dX3_state_9 : decode cX3_state 9 = .ok (.getfield 44, 3) := by decide +kernel
theorem dX3_state_12 : decode cX3_state 12 = .ok (.iload_n 1, 1) := by decide +kernel
theorem dX3_state_13 : decode cX3_state 13 = .ok (.aaload, 1) := by decide +kernel
theorem dX3_state_14 : decode cX3_state 14 = .ok (.getfield 72, 3) := by decide +kernel
theorem dX3_state_17 : decode cX3_state 17 = .ok (.ireturn, 1) := by decide +kernel
theorem dX3_setSilent_0 : decode cX3_setSilent 0 = .ok (.aload_n 0, 1) := by decide +kernel
theorem dX3_setSilent_1 : decode cX3_setSilent 1 = .ok (.iload_n 1, 1) := by decide +kernel
theorem dX3_setSilent_2 : decode cX3_setSilent 2 = .ok (.invokevirtual 38, 3) := by decide +kernel
theorem dX3_setSilent_5 : decode cX3_setSilent 5 = .ok (.aload_n 0, 1) := by decide +kernel
theorem dX3_setSilent_6 : decode cX3_setSilent 6 = .ok (.invokevirtual 31, 3) := by decide +kernel
theorem dX3_setSilent_9 : decode cX3_setSilent 9 = .ok (.aload_n 0, 1) := by decide +kernel
theorem dX3_setSilent_10 : decode cX3_setSilent 10 = .ok (.getfield 12, 3) := by decide +kernel
theorem dX3_setSilent_13 : decode cX3_setSilent 13 = .ok (.getfield 44, 3) := by decide +kernel
theorem dX3_setSilent_16 : decode cX3_setSilent 16 = .ok (.iload_n 1, 1) := by decide +kernel
theorem dX3_setSilent_17 : decode cX3_setSilent 17 = .ok (.aaload, 1) := by decide +kernel
theorem dX3_setSilent_18 : decode cX3_setSilent 18 = .ok (.astore_n 3, 1) := by decide +kernel
theorem dX3_setSilent_19 : decode cX3_setSilent 19 = .ok (.aload_n 3, 1) := by decide +kernel
theorem dX3_setSilent_20 : decode cX3_setSilent 20 = .ok (.iload_n 2, 1) := by decide +kernel
theorem dX3_setSilent_21 : decode cX3_setSilent 21 = .ok (.putfield 90, 3) := by decide +kernel
theorem dX3_setSilent_24 : decode cX3_setSilent 24 = .ok (.aload_n 3, 1) := by decide +kernel
theorem dX3_setSilent_25 : decode cX3_setSilent 25 = .ok (.getfield 94, 3) := by decide +kernel
theorem dX3_setSilent_28 : decode cX3_setSilent 28 = .ok (.getfield 52, 3) := by decide +kernel
theorem dX3_setSilent_31 : decode cX3_setSilent 31 = .ok (.ireturn, 1) := by decide +kernel
theorem dX3_pending_0 : decode cX3_pending 0 = .ok (.aload_n 0, 1) := by decide +kernel
theorem dX3_pending_1 : decode cX3_pending 1 = .ok (.iload_n 1, 1) := by decide +kernel
theorem dX3_pending_2 : decode cX3_pending 2 = .ok (.invokevirtual 38, 3) := by decide +kernel
theorem dX3_pending_5 : decode cX3_pending 5 = .ok (.aload_n 0, 1) := by decide +kernel
theorem dX3_pending_6 : decode cX3_pending 6 = .ok (.getfield 12, 3) := by decide +kernel
theorem dX3_pending_9 : decode cX3_pending 9 = .ok (.getfield 44, 3) := by decide +kernel
theorem dX3_pending_12 : decode cX3_pending 12 = .ok (.iload_n 1, 1) := by decide +kernel
theorem dX3_pending_13 : decode cX3_pending 13 = .ok (.aaload, 1) := by decide +kernel
theorem dX3_pending_14 : decode cX3_pending 14 = .ok (.getfield 94, 3) := by decide +kernel
theorem dX3_pending_17 : decode cX3_pending 17 = .ok (.getfield 52, 3) := by decide +kernel
theorem dX3_pending_20 : decode cX3_pending 20 = .ok (.ireturn, 1) := by decide +kernel
theorem dX3_resend_0 : decode cX3_resend 0 = .ok (.aload_n 0, 1) := by decide +kernel
theorem dX3_resend_1 : decode cX3_resend 1 = .ok (.iload_n 1, 1) := by decide +kernel
theorem dX3_resend_2 : decode cX3_resend 2 = .ok (.invokevirtual 38, 3) := by decide +kernel
theorem dX3_resend_5 : decode cX3_resend 5 = .ok (.aload_n 0, 1) := by decide +kernel
theorem dX3_resend_6 : decode cX3_resend 6 = .ok (.getfield 12, 3) := by decide +kernel
theorem dX3_resend_9 : decode cX3_resend 9 = .ok (.getfield 44, 3) := by decide +kernel
theorem dX3_resend_12 : decode cX3_resend 12 = .ok (.iload_n 1, 1) := by decide +kernel
theorem dX3_resend_13 : decode cX3_resend 13 = .ok (.aaload, 1) := by decide +kernel
theorem dX3_resend_14 : decode cX3_resend 14 = .ok (.getfield 94, 3) := by decide +kernel
theorem dX3_resend_17 : decode cX3_resend 17 = .ok (.astore_n 2, 1) := by decide +kernel
theorem dX3_resend_18 : decode cX3_resend 18 = .ok (.aload_n 2, 1) := by decide +kernel
theorem dX3_resend_19 : decode cX3_resend 19 = .ok (.getfield 52, 3) := by decide +kernel
theorem dX3_resend_22 : decode cX3_resend 22 = .ok (.istore_n 3, 1) := by decide +kernel
theorem dX3_resend_23 : decode cX3_resend 23 = .ok (.aload_n 0, 1) := by decide +kernel
theorem dX3_resend_24 : decode cX3_resend 24 = .ok (.getfield 12, 3) := by decide +kernel
theorem dX3_resend_27 : decode cX3_resend 27 = .ok (.getfield 48, 3) := by decide +kernel
theorem dX3_resend_30 : decode cX3_resend 30 = .ok (.getfield 52, 3) := by decide +kernel
theorem dX3_resend_33 : decode cX3_resend 33 = .ok (.iload_n 3, 1) := by decide +kernel
theorem dX3_resend_34 : decode cX3_resend 34 = .ok (.iadd, 1) := by decide +kernel
theorem dX3_resend_35 : decode cX3_resend 35 = .ok (.bipush 40, 2) := by decide +kernel
theorem dX3_resend_37 : decode cX3_resend 37 = .ok (.if_icmp .le 13, 3) := by decide +kernel
theorem dX3_resend_40 : decode cX3_resend 40 = .ok (.new 63, 3) := by decide +kernel
theorem dX3_resend_43 : decode cX3_resend 43 = .ok (.dup, 1) := by decide +kernel
theorem dX3_resend_44 : decode cX3_resend 44 = .ok (.ldc 97, 2) := by decide +kernel
theorem dX3_resend_46 : decode cX3_resend 46 = .ok (.invokespecial 67, 3) := by decide +kernel
theorem dX3_resend_49 : decode cX3_resend 49 = .ok (.athrow, 1) := by decide +kernel
theorem dX3_resend_50 : decode cX3_resend 50 = .ok (.aload_n 0, 1) := by decide +kernel
theorem dX3_resend_51 : decode cX3_resend 51 = .ok (.invokevirtual 31, 3) := by decide +kernel
theorem dX3_resend_54 : decode cX3_resend 54 = .ok (.iconst 0, 1) := by decide +kernel
theorem dX3_resend_55 : decode cX3_resend 55 = .ok (.istore 4, 2) := by decide +kernel
theorem dX3_resend_57 : decode cX3_resend 57 = .ok (.iload 4, 2) := by decide +kernel
theorem dX3_resend_59 : decode cX3_resend 59 = .ok (.iload_n 3, 1) := by decide +kernel
theorem dX3_resend_60 : decode cX3_resend 60 = .ok (.if_icmp .ge 22, 3) := by decide +kernel
theorem dX3_resend_63 : decode cX3_resend 63 = .ok (.aload_n 0, 1) := by decide +kernel
theorem dX3_resend_64 : decode cX3_resend 64 = .ok (.getfield 12, 3) := by decide +kernel
theorem dX3_resend_67 : decode cX3_resend 67 = .ok (.getfield 48, 3) := by decide +kernel
theorem dX3_resend_70 : decode cX3_resend 70 = .ok (.aload_n 2, 1) := by decide +kernel
theorem dX3_resend_71 : decode cX3_resend 71 = .ok (.iload 4, 2) := by decide +kernel
theorem dX3_resend_73 : decode cX3_resend 73 = .ok (.invokevirtual 99, 3) := by decide +kernel
theorem dX3_resend_76 : decode cX3_resend 76 = .ok (.iinc 4 1, 3) := by decide +kernel
theorem dX3_resend_79 : decode cX3_resend 79 = .ok (.goto (-22), 3) := by decide +kernel
theorem dX3_resend_82 : decode cX3_resend 82 = .ok (.aload_n 2, 1) := by decide +kernel
theorem dX3_resend_83 : decode cX3_resend 83 = .ok (.iconst 0, 1) := by decide +kernel
theorem dX3_resend_84 : decode cX3_resend 84 = .ok (.invokevirtual 103, 3) := by decide +kernel
theorem dX3_resend_87 : decode cX3_resend 87 = .ok (.iload_n 3, 1) := by decide +kernel
theorem dX3_resend_88 : decode cX3_resend 88 = .ok (.ireturn, 1) := by decide +kernel
theorem dX3_lie_0 : decode cX3_lie 0 = .ok (.aload_n 0, 1) := by decide +kernel
theorem dX3_lie_1 : decode cX3_lie 1 = .ok (.iload_n 1, 1) := by decide +kernel
theorem dX3_lie_2 : decode cX3_lie 2 = .ok (.invokevirtual 38, 3) := by decide +kernel
theorem dX3_lie_5 : decode cX3_lie 5 = .ok (.aload_n 0, 1) := by decide +kernel
theorem dX3_lie_6 : decode cX3_lie 6 = .ok (.invokevirtual 31, 3) := by decide +kernel
theorem dX3_lie_9 : decode cX3_lie 9 = .ok (.aload_n 0, 1) := by decide +kernel
theorem dX3_lie_10 : decode cX3_lie 10 = .ok (.getfield 12, 3) := by decide +kernel
theorem dX3_lie_13 : decode cX3_lie 13 = .ok (.getfield 44, 3) := by decide +kernel
theorem dX3_lie_16 : decode cX3_lie 16 = .ok (.iload_n 1, 1) := by decide +kernel
theorem dX3_lie_17 : decode cX3_lie 17 = .ok (.aaload, 1) := by decide +kernel
theorem dX3_lie_18 : decode cX3_lie 18 = .ok (.astore_n 2, 1) := by decide +kernel
theorem dX3_lie_19 : decode cX3_lie 19 = .ok (.aload_n 2, 1) := by decide +kernel
theorem dX3_lie_20 : decode cX3_lie 20 = .ok (.getfield 106, 3) := by decide +kernel
theorem dX3_lie_23 : decode cX3_lie 23 = .ok (.istore_n 3, 1) := by decide +kernel
theorem dX3_lie_24 : decode cX3_lie 24 = .ok (.aload_n 2, 1) := by decide +kernel
theorem dX3_lie_25 : decode cX3_lie 25 = .ok (.iconst 1, 1) := by decide +kernel
theorem dX3_lie_26 : decode cX3_lie 26 = .ok (.putfield 106, 3) := by decide +kernel
theorem dX3_lie_29 : decode cX3_lie 29 = .ok (.iload_n 3, 1) := by decide +kernel
theorem dX3_lie_30 : decode cX3_lie 30 = .ok (.ireturn, 1) := by decide +kernel
theorem dX3_tamper_0 : decode cX3_tamper 0 = .ok (.aload_n 0, 1) := by decide +kernel
theorem dX3_tamper_1 : decode cX3_tamper 1 = .ok (.iload_n 1, 1) := by decide +kernel
theorem dX3_tamper_2 : decode cX3_tamper 2 = .ok (.iload_n 2, 1) := by decide +kernel
theorem dX3_tamper_3 : decode cX3_tamper 3 = .ok (.invokevirtual 109, 3) := by decide +kernel
theorem dX3_tamper_6 : decode cX3_tamper 6 = .ok (.iload_n 3, 1) := by decide +kernel
theorem dX3_tamper_7 : decode cX3_tamper 7 = .ok (.invokestatic 41, 3) := by decide +kernel
theorem dX3_tamper_10 : decode cX3_tamper 10 = .ok (.aload_n 0, 1) := by decide +kernel
theorem dX3_tamper_11 : decode cX3_tamper 11 = .ok (.invokevirtual 31, 3) := by decide +kernel
theorem dX3_tamper_14 : decode cX3_tamper 14 = .ok (.aload_n 0, 1) := by decide +kernel
theorem dX3_tamper_15 : decode cX3_tamper 15 = .ok (.getfield 12, 3) := by decide +kernel
theorem dX3_tamper_18 : decode cX3_tamper 18 = .ok (.getfield 44, 3) := by decide +kernel
theorem dX3_tamper_21 : decode cX3_tamper 21 = .ok (.iload_n 1, 1) := by decide +kernel
theorem dX3_tamper_22 : decode cX3_tamper 22 = .ok (.aaload, 1) := by decide +kernel
theorem dX3_tamper_23 : decode cX3_tamper 23 = .ok (.astore 4, 2) := by decide +kernel
theorem dX3_tamper_25 : decode cX3_tamper 25 = .ok (.aload 4, 2) := by decide +kernel
theorem dX3_tamper_27 : decode cX3_tamper 27 = .ok (.getfield 113, 3) := by decide +kernel
theorem dX3_tamper_30 : decode cX3_tamper 30 = .ok (.iload_n 2, 1) := by decide +kernel
theorem dX3_tamper_31 : decode cX3_tamper 31 = .ok (.iconst 2, 1) := by decide +kernel
theorem dX3_tamper_32 : decode cX3_tamper 32 = .ok (.invokevirtual 116, 3) := by decide +kernel
theorem dX3_tamper_35 : decode cX3_tamper 35 = .ok (.istore 5, 2) := by decide +kernel
theorem dX3_tamper_37 : decode cX3_tamper 37 = .ok (.aload 4, 2) := by decide +kernel
theorem dX3_tamper_39 : decode cX3_tamper 39 = .ok (.getfield 113, 3) := by decide +kernel
theorem dX3_tamper_42 : decode cX3_tamper 42 = .ok (.iload_n 2, 1) := by decide +kernel
theorem dX3_tamper_43 : decode cX3_tamper 43 = .ok (.iconst 2, 1) := by decide +kernel
theorem dX3_tamper_44 : decode cX3_tamper 44 = .ok (.iload_n 3, 1) := by decide +kernel
theorem dX3_tamper_45 : decode cX3_tamper 45 = .ok (.invokevirtual 120, 3) := by decide +kernel
theorem dX3_tamper_48 : decode cX3_tamper 48 = .ok (.aload 4, 2) := by decide +kernel
theorem dX3_tamper_50 : decode cX3_tamper 50 = .ok (.iload_n 2, 1) := by decide +kernel
theorem dX3_tamper_51 : decode cX3_tamper 51 = .ok (.invokevirtual 124, 3) := by decide +kernel
theorem dX3_tamper_54 : decode cX3_tamper 54 = .ok (.iload 5, 2) := by decide +kernel
theorem dX3_tamper_56 : decode cX3_tamper 56 = .ok (.ireturn, 1) := by decide +kernel
theorem dX3_cut_0 : decode cX3_cut 0 = .ok (.aload_n 0, 1) := by decide +kernel
theorem dX3_cut_1 : decode cX3_cut 1 = .ok (.iload_n 1, 1) := by decide +kernel
theorem dX3_cut_2 : decode cX3_cut 2 = .ok (.invokevirtual 38, 3) := by decide +kernel
theorem dX3_cut_5 : decode cX3_cut 5 = .ok (.aload_n 0, 1) := by decide +kernel
theorem dX3_cut_6 : decode cX3_cut 6 = .ok (.getfield 12, 3) := by decide +kernel
theorem dX3_cut_9 : decode cX3_cut 9 = .ok (.getfield 44, 3) := by decide +kernel
theorem dX3_cut_12 : decode cX3_cut 12 = .ok (.iload_n 1, 1) := by decide +kernel
theorem dX3_cut_13 : decode cX3_cut 13 = .ok (.aaload, 1) := by decide +kernel
theorem dX3_cut_14 : decode cX3_cut 14 = .ok (.getfield 113, 3) := by decide +kernel
theorem dX3_cut_17 : decode cX3_cut 17 = .ok (.astore_n 3, 1) := by decide +kernel
theorem dX3_cut_18 : decode cX3_cut 18 = .ok (.iload_n 2, 1) := by decide +kernel
theorem dX3_cut_19 : decode cX3_cut 19 = .ok (.iconst 1, 1) := by decide +kernel
theorem dX3_cut_20 : decode cX3_cut 20 = .ok (.if_icmp .lt 11, 3) := by decide +kernel
theorem dX3_cut_23 : decode cX3_cut 23 = .ok (.iload_n 2, 1) := by decide +kernel
theorem dX3_cut_24 : decode cX3_cut 24 = .ok (.aload_n 3, 1) := by decide +kernel
theorem dX3_cut_25 : decode cX3_cut 25 = .ok (.getfield 52, 3) := by decide +kernel
theorem dX3_cut_28 : decode cX3_cut 28 = .ok (.if_icmp .le 13, 3) := by decide +kernel
theorem dX3_cut_31 : decode cX3_cut 31 = .ok (.new 24, 3) := by decide +kernel
theorem dX3_cut_34 : decode cX3_cut 34 = .ok (.dup, 1) := by decide +kernel
theorem dX3_cut_35 : decode cX3_cut 35 = .ok (.ldc 127, 2) := by decide +kernel
theorem dX3_cut_37 : decode cX3_cut 37 = .ok (.invokespecial 28, 3) := by decide +kernel
theorem dX3_cut_40 : decode cX3_cut 40 = .ok (.athrow, 1) := by decide +kernel
theorem dX3_cut_41 : decode cX3_cut 41 = .ok (.aload_n 0, 1) := by decide +kernel
theorem dX3_cut_42 : decode cX3_cut 42 = .ok (.invokevirtual 31, 3) := by decide +kernel
theorem dX3_cut_45 : decode cX3_cut 45 = .ok (.aload_n 3, 1) := by decide +kernel
theorem dX3_cut_46 : decode cX3_cut 46 = .ok (.aload_n 3, 1) := by decide +kernel
theorem dX3_cut_47 : decode cX3_cut 47 = .ok (.getfield 52, 3) := by decide +kernel
theorem dX3_cut_50 : decode cX3_cut 50 = .ok (.iload_n 2, 1) := by decide +kernel
theorem dX3_cut_51 : decode cX3_cut 51 = .ok (.isub, 1) := by decide +kernel
theorem dX3_cut_52 : decode cX3_cut 52 = .ok (.invokevirtual 103, 3) := by decide +kernel
theorem dX3_cut_55 : decode cX3_cut 55 = .ok (.aload_n 3, 1) := by decide +kernel
theorem dX3_cut_56 : decode cX3_cut 56 = .ok (.getfield 52, 3) := by decide +kernel
theorem dX3_cut_59 : decode cX3_cut 59 = .ok (.ireturn, 1) := by decide +kernel
theorem dX3_logLength_0 : decode cX3_logLength 0 = .ok (.aload_n 0, 1) := by decide +kernel
theorem dX3_logLength_1 : decode cX3_logLength 1 = .ok (.iload_n 1, 1) := by decide +kernel
theorem dX3_logLength_2 : decode cX3_logLength 2 = .ok (.invokevirtual 38, 3) := by decide +kernel
theorem dX3_logLength_5 : decode cX3_logLength 5 = .ok (.aload_n 0, 1) := by decide +kernel
theorem dX3_logLength_6 : decode cX3_logLength 6 = .ok (.getfield 12, 3) := by decide +kernel
theorem dX3_logLength_9 : decode cX3_logLength 9 = .ok (.getfield 44, 3) := by decide +kernel
theorem dX3_logLength_12 : decode cX3_logLength 12 = .ok (.iload_n 1, 1) := by decide +kernel
theorem dX3_logLength_13 : decode cX3_logLength 13 = .ok (.aaload, 1) := by decide +kernel
theorem dX3_logLength_14 : decode cX3_logLength 14 = .ok (.getfield 113, 3) := by decide +kernel
theorem dX3_logLength_17 : decode cX3_logLength 17 = .ok (.getfield 52, 3) := by decide +kernel
theorem dX3_logLength_20 : decode cX3_logLength 20 = .ok (.ireturn, 1) := by decide +kernel
theorem dX3_entry_0 : decode cX3_entry 0 = .ok (.aload_n 0, 1) := by decide +kernel
theorem dX3_entry_1 : decode cX3_entry 1 = .ok (.iload_n 1, 1) := by decide +kernel
theorem dX3_entry_2 : decode cX3_entry 2 = .ok (.iload_n 2, 1) := by decide +kernel
theorem dX3_entry_3 : decode cX3_entry 3 = .ok (.invokevirtual 109, 3) := by decide +kernel
theorem dX3_entry_6 : decode cX3_entry 6 = .ok (.aload_n 0, 1) := by decide +kernel
theorem dX3_entry_7 : decode cX3_entry 7 = .ok (.getfield 12, 3) := by decide +kernel
theorem dX3_entry_10 : decode cX3_entry 10 = .ok (.getfield 44, 3) := by decide +kernel
theorem dX3_entry_13 : decode cX3_entry 13 = .ok (.iload_n 1, 1) := by decide +kernel
theorem dX3_entry_14 : decode cX3_entry 14 = .ok (.aaload, 1) := by decide +kernel
theorem dX3_entry_15 : decode cX3_entry 15 = .ok (.iload_n 2, 1) := by decide +kernel
theorem dX3_entry_16 : decode cX3_entry 16 = .ok (.invokevirtual 129, 3) := by decide +kernel
theorem dX3_entry_19 : decode cX3_entry 19 = .ok (.ireturn, 1) := by decide +kernel
theorem dX3_chain_0 : decode cX3_chain 0 = .ok (.aload_n 0, 1) := by decide +kernel
theorem dX3_chain_1 : decode cX3_chain 1 = .ok (.iload_n 1, 1) := by decide +kernel
theorem dX3_chain_2 : decode cX3_chain 2 = .ok (.invokevirtual 38, 3) := by decide +kernel
theorem dX3_chain_5 : decode cX3_chain 5 = .ok (.aload_n 0, 1) := by decide +kernel
theorem dX3_chain_6 : decode cX3_chain 6 = .ok (.getfield 12, 3) := by decide +kernel
theorem dX3_chain_9 : decode cX3_chain 9 = .ok (.getfield 44, 3) := by decide +kernel
theorem dX3_chain_12 : decode cX3_chain 12 = .ok (.iload_n 1, 1) := by decide +kernel
theorem dX3_chain_13 : decode cX3_chain 13 = .ok (.aaload, 1) := by decide +kernel
theorem dX3_chain_14 : decode cX3_chain 14 = .ok (.astore_n 3, 1) := by decide +kernel
theorem dX3_chain_15 : decode cX3_chain 15 = .ok (.iload_n 2, 1) := by decide +kernel
theorem dX3_chain_16 : decode cX3_chain 16 = .ok (.ifCond .lt 14, 3) := by decide +kernel
theorem dX3_chain_19 : decode cX3_chain 19 = .ok (.iload_n 2, 1) := by decide +kernel
theorem dX3_chain_20 : decode cX3_chain 20 = .ok (.aload_n 3, 1) := by decide +kernel
theorem dX3_chain_21 : decode cX3_chain 21 = .ok (.getfield 113, 3) := by decide +kernel
theorem dX3_chain_24 : decode cX3_chain 24 = .ok (.getfield 52, 3) := by decide +kernel
theorem dX3_chain_27 : decode cX3_chain 27 = .ok (.if_icmp .le 13, 3) := by decide +kernel
theorem dX3_chain_30 : decode cX3_chain 30 = .ok (.new 133, 3) := by decide +kernel
theorem dX3_chain_33 : decode cX3_chain 33 = .ok (.dup, 1) := by decide +kernel
theorem dX3_chain_34 : decode cX3_chain 34 = .ok (.ldc 135, 2) := by decide +kernel
theorem dX3_chain_36 : decode cX3_chain 36 = .ok (.invokespecial 137, 3) := by decide +kernel
theorem dX3_chain_39 : decode cX3_chain 39 = .ok (.athrow, 1) := by decide +kernel
theorem dX3_chain_40 : decode cX3_chain 40 = .ok (.aload_n 3, 1) := by decide +kernel
theorem dX3_chain_41 : decode cX3_chain 41 = .ok (.iload_n 2, 1) := by decide +kernel
theorem dX3_chain_42 : decode cX3_chain 42 = .ok (.invokevirtual 138, 3) := by decide +kernel
theorem dX3_chain_45 : decode cX3_chain 45 = .ok (.ireturn, 1) := by decide +kernel
theorem dX3_held_0 : decode cX3_held 0 = .ok (.aload_n 0, 1) := by decide +kernel
theorem dX3_held_1 : decode cX3_held 1 = .ok (.iload_n 1, 1) := by decide +kernel
theorem dX3_held_2 : decode cX3_held 2 = .ok (.invokevirtual 38, 3) := by decide +kernel
theorem dX3_held_5 : decode cX3_held 5 = .ok (.aload_n 0, 1) := by decide +kernel
theorem dX3_held_6 : decode cX3_held 6 = .ok (.getfield 12, 3) := by decide +kernel
theorem dX3_held_9 : decode cX3_held 9 = .ok (.getfield 44, 3) := by decide +kernel
theorem dX3_held_12 : decode cX3_held 12 = .ok (.iload_n 1, 1) := by decide +kernel
theorem dX3_held_13 : decode cX3_held 13 = .ok (.aaload, 1) := by decide +kernel
theorem dX3_held_14 : decode cX3_held 14 = .ok (.getfield 141, 3) := by decide +kernel
theorem dX3_held_17 : decode cX3_held 17 = .ok (.getfield 52, 3) := by decide +kernel
theorem dX3_held_20 : decode cX3_held 20 = .ok (.ireturn, 1) := by decide +kernel
theorem dX3_authenticator_0 : decode cX3_authenticator 0 = .ok (.aload_n 0, 1) := by decide +kernel
theorem dX3_authenticator_1 : decode cX3_authenticator 1 = .ok (.iload_n 1, 1) := by decide +kernel
theorem dX3_authenticator_2 : decode cX3_authenticator 2 = .ok (.invokevirtual 38, 3) := by decide +kernel
theorem dX3_authenticator_5 : decode cX3_authenticator 5 = .ok (.aload_n 0, 1) := by decide +kernel
theorem dX3_authenticator_6 : decode cX3_authenticator 6 = .ok (.getfield 12, 3) := by decide +kernel
theorem dX3_authenticator_9 : decode cX3_authenticator 9 = .ok (.getfield 44, 3) := by decide +kernel
theorem dX3_authenticator_12 : decode cX3_authenticator 12 = .ok (.iload_n 1, 1) := by decide +kernel
theorem dX3_authenticator_13 : decode cX3_authenticator 13 = .ok (.aaload, 1) := by decide +kernel
theorem dX3_authenticator_14 : decode cX3_authenticator 14 = .ok (.getfield 141, 3) := by decide +kernel
theorem dX3_authenticator_17 : decode cX3_authenticator 17 = .ok (.astore 4, 2) := by decide +kernel
theorem dX3_authenticator_19 : decode cX3_authenticator 19 = .ok (.iload_n 2, 1) := by decide +kernel
theorem dX3_authenticator_20 : decode cX3_authenticator 20 = .ok (.ifCond .lt 12, 3) := by decide +kernel
theorem dX3_authenticator_23 : decode cX3_authenticator 23 = .ok (.iload_n 2, 1) := by decide +kernel
theorem dX3_authenticator_24 : decode cX3_authenticator 24 = .ok (.aload 4, 2) := by decide +kernel
theorem dX3_authenticator_26 : decode cX3_authenticator 26 = .ok (.getfield 52, 3) := by decide +kernel
theorem dX3_authenticator_29 : decode cX3_authenticator 29 = .ok (.if_icmp .lt 13, 3) := by decide +kernel
theorem dX3_authenticator_32 : decode cX3_authenticator 32 = .ok (.new 133, 3) := by decide +kernel
theorem dX3_authenticator_35 : decode cX3_authenticator 35 = .ok (.dup, 1) := by decide +kernel
theorem dX3_authenticator_36 : decode cX3_authenticator 36 = .ok (.ldc 144, 2) := by decide +kernel
theorem dX3_authenticator_38 : decode cX3_authenticator 38 = .ok (.invokespecial 137, 3) := by decide +kernel
theorem dX3_authenticator_41 : decode cX3_authenticator 41 = .ok (.athrow, 1) := by decide +kernel
theorem dX3_authenticator_42 : decode cX3_authenticator 42 = .ok (.iload_n 3, 1) := by decide +kernel
theorem dX3_authenticator_43 : decode cX3_authenticator 43 = .ok (.ifCond .lt 8, 3) := by decide +kernel
theorem dX3_authenticator_46 : decode cX3_authenticator 46 = .ok (.iload_n 3, 1) := by decide +kernel
theorem dX3_authenticator_47 : decode cX3_authenticator 47 = .ok (.iconst 3, 1) := by decide +kernel
theorem dX3_authenticator_48 : decode cX3_authenticator 48 = .ok (.if_icmp .lt 13, 3) := by decide +kernel
theorem dX3_authenticator_51 : decode cX3_authenticator 51 = .ok (.new 24, 3) := by decide +kernel
theorem dX3_authenticator_54 : decode cX3_authenticator 54 = .ok (.dup, 1) := by decide +kernel
theorem dX3_authenticator_55 : decode cX3_authenticator 55 = .ok (.ldc 146, 2) := by decide +kernel
theorem dX3_authenticator_57 : decode cX3_authenticator 57 = .ok (.invokespecial 28, 3) := by decide +kernel
theorem dX3_authenticator_60 : decode cX3_authenticator 60 = .ok (.athrow, 1) := by decide +kernel
theorem dX3_authenticator_61 : decode cX3_authenticator 61 = .ok (.aload 4, 2) := by decide +kernel
theorem dX3_authenticator_63 : decode cX3_authenticator 63 = .ok (.iload_n 2, 1) := by decide +kernel
theorem dX3_authenticator_64 : decode cX3_authenticator 64 = .ok (.iload_n 3, 1) := by decide +kernel
theorem dX3_authenticator_65 : decode cX3_authenticator 65 = .ok (.invokevirtual 116, 3) := by decide +kernel
theorem dX3_authenticator_68 : decode cX3_authenticator 68 = .ok (.ireturn, 1) := by decide +kernel
theorem dX3_setWitnesses_0 : decode cX3_setWitnesses 0 = .ok (.aload_n 0, 1) := by decide +kernel
theorem dX3_setWitnesses_1 : decode cX3_setWitnesses 1 = .ok (.iload_n 1, 1) := by decide +kernel
theorem dX3_setWitnesses_2 : decode cX3_setWitnesses 2 = .ok (.invokevirtual 38, 3) := by decide +kernel
theorem dX3_setWitnesses_5 : decode cX3_setWitnesses 5 = .ok (.iload_n 2, 1) := by decide +kernel
theorem dX3_setWitnesses_6 : decode cX3_setWitnesses 6 = .ok (.iload_n 1, 1) := by decide +kernel
theorem dX3_setWitnesses_7 : decode cX3_setWitnesses 7 = .ok (.aload_n 0, 1) := by decide +kernel
theorem dX3_setWitnesses_8 : decode cX3_setWitnesses 8 = .ok (.getfield 12, 3) := by decide +kernel
theorem dX3_setWitnesses_11 : decode cX3_setWitnesses 11 = .ok (.getfield 34, 3) := by decide +kernel
theorem dX3_setWitnesses_14 : decode cX3_setWitnesses 14 = .ok (.invokestatic 148, 3) := by decide +kernel
theorem dX3_setWitnesses_17 : decode cX3_setWitnesses 17 = .ok (.iconst (-1), 1) := by decide +kernel
theorem dX3_setWitnesses_18 : decode cX3_setWitnesses 18 = .ok (.ixor, 1) := by decide +kernel
theorem dX3_setWitnesses_19 : decode cX3_setWitnesses 19 = .ok (.iand, 1) := by decide +kernel
theorem dX3_setWitnesses_20 : decode cX3_setWitnesses 20 = .ok (.ifCond .eq 13, 3) := by decide +kernel
theorem dX3_setWitnesses_23 : decode cX3_setWitnesses 23 = .ok (.new 24, 3) := by decide +kernel
theorem dX3_setWitnesses_26 : decode cX3_setWitnesses 26 = .ok (.dup, 1) := by decide +kernel
theorem dX3_setWitnesses_27 : decode cX3_setWitnesses 27 = .ok (.ldc 151, 2) := by decide +kernel
theorem dX3_setWitnesses_29 : decode cX3_setWitnesses 29 = .ok (.invokespecial 28, 3) := by decide +kernel
theorem dX3_setWitnesses_32 : decode cX3_setWitnesses 32 = .ok (.athrow, 1) := by decide +kernel
theorem dX3_setWitnesses_33 : decode cX3_setWitnesses 33 = .ok (.aload_n 0, 1) := by decide +kernel
theorem dX3_setWitnesses_34 : decode cX3_setWitnesses 34 = .ok (.invokevirtual 31, 3) := by decide +kernel
theorem dX3_setWitnesses_37 : decode cX3_setWitnesses 37 = .ok (.aload_n 0, 1) := by decide +kernel
theorem dX3_setWitnesses_38 : decode cX3_setWitnesses 38 = .ok (.getfield 12, 3) := by decide +kernel
theorem dX3_setWitnesses_41 : decode cX3_setWitnesses 41 = .ok (.getfield 44, 3) := by decide +kernel
theorem dX3_setWitnesses_44 : decode cX3_setWitnesses 44 = .ok (.iload_n 1, 1) := by decide +kernel
theorem dX3_setWitnesses_45 : decode cX3_setWitnesses 45 = .ok (.aaload, 1) := by decide +kernel
theorem dX3_setWitnesses_46 : decode cX3_setWitnesses 46 = .ok (.astore_n 3, 1) := by decide +kernel
theorem dX3_setWitnesses_47 : decode cX3_setWitnesses 47 = .ok (.aload_n 3, 1) := by decide +kernel
theorem dX3_setWitnesses_48 : decode cX3_setWitnesses 48 = .ok (.getfield 153, 3) := by decide +kernel
theorem dX3_setWitnesses_51 : decode cX3_setWitnesses 51 = .ok (.istore 4, 2) := by decide +kernel
theorem dX3_setWitnesses_53 : decode cX3_setWitnesses 53 = .ok (.aload_n 3, 1) := by decide +kernel
theorem dX3_setWitnesses_54 : decode cX3_setWitnesses 54 = .ok (.iload_n 2, 1) := by decide +kernel
theorem dX3_setWitnesses_55 : decode cX3_setWitnesses 55 = .ok (.putfield 153, 3) := by decide +kernel
theorem dX3_setWitnesses_58 : decode cX3_setWitnesses 58 = .ok (.iload 4, 2) := by decide +kernel
theorem dX3_setWitnesses_60 : decode cX3_setWitnesses 60 = .ok (.ireturn, 1) := by decide +kernel
theorem dX3_audit_0 : decode cX3_audit 0 = .ok (.aload_n 0, 1) := by decide +kernel
theorem dX3_audit_1 : decode cX3_audit 1 = .ok (.iload_n 1, 1) := by decide +kernel
theorem dX3_audit_2 : decode cX3_audit 2 = .ok (.invokevirtual 38, 3) := by decide +kernel
theorem dX3_audit_5 : decode cX3_audit 5 = .ok (.aload_n 0, 1) := by decide +kernel
theorem dX3_audit_6 : decode cX3_audit 6 = .ok (.iload_n 2, 1) := by decide +kernel
theorem dX3_audit_7 : decode cX3_audit 7 = .ok (.invokevirtual 38, 3) := by decide +kernel
theorem dX3_audit_10 : decode cX3_audit 10 = .ok (.aload_n 0, 1) := by decide +kernel
theorem dX3_audit_11 : decode cX3_audit 11 = .ok (.getfield 12, 3) := by decide +kernel
theorem dX3_audit_14 : decode cX3_audit 14 = .ok (.getfield 44, 3) := by decide +kernel
theorem dX3_audit_17 : decode cX3_audit 17 = .ok (.iload_n 2, 1) := by decide +kernel
theorem dX3_audit_18 : decode cX3_audit 18 = .ok (.aaload, 1) := by decide +kernel
theorem dX3_audit_19 : decode cX3_audit 19 = .ok (.astore_n 3, 1) := by decide +kernel
theorem dX3_audit_20 : decode cX3_audit 20 = .ok (.aload_n 3, 1) := by decide +kernel
theorem dX3_audit_21 : decode cX3_audit 21 = .ok (.iload_n 1, 1) := by decide +kernel
theorem dX3_audit_22 : decode cX3_audit 22 = .ok (.invokevirtual 156, 3) := by decide +kernel
theorem dX3_audit_25 : decode cX3_audit 25 = .ok (.ifCond .ne 13, 3) := by decide +kernel
theorem dX3_audit_28 : decode cX3_audit 28 = .ok (.new 63, 3) := by decide +kernel
theorem dX3_audit_31 : decode cX3_audit 31 = .ok (.dup, 1) := by decide +kernel
theorem dX3_audit_32 : decode cX3_audit 32 = .ok (.ldc 159, 2) := by decide +kernel
theorem dX3_audit_34 : decode cX3_audit 34 = .ok (.invokespecial 67, 3) := by decide +kernel
theorem dX3_audit_37 : decode cX3_audit 37 = .ok (.athrow, 1) := by decide +kernel
theorem dX3_audit_38 : decode cX3_audit 38 = .ok (.aload_n 0, 1) := by decide +kernel
theorem dX3_audit_39 : decode cX3_audit 39 = .ok (.invokevirtual 31, 3) := by decide +kernel
theorem dX3_audit_42 : decode cX3_audit 42 = .ok (.aload_n 3, 1) := by decide +kernel
theorem dX3_audit_43 : decode cX3_audit 43 = .ok (.getfield 161, 3) := by decide +kernel
theorem dX3_audit_46 : decode cX3_audit 46 = .ok (.iload_n 1, 1) := by decide +kernel
theorem dX3_audit_47 : decode cX3_audit 47 = .ok (.aload_n 0, 1) := by decide +kernel
theorem dX3_audit_48 : decode cX3_audit 48 = .ok (.getfield 12, 3) := by decide +kernel
theorem dX3_audit_51 : decode cX3_audit 51 = .ok (.iload_n 1, 1) := by decide +kernel
theorem dX3_audit_52 : decode cX3_audit 52 = .ok (.aload_n 3, 1) := by decide +kernel
theorem dX3_audit_53 : decode cX3_audit 53 = .ok (.invokevirtual 165, 3) := by decide +kernel
theorem dX3_audit_56 : decode cX3_audit 56 = .ok (.iastore, 1) := by decide +kernel
theorem dX3_audit_57 : decode cX3_audit 57 = .ok (.aload_n 3, 1) := by decide +kernel
theorem dX3_audit_58 : decode cX3_audit 58 = .ok (.getfield 161, 3) := by decide +kernel
theorem dX3_audit_61 : decode cX3_audit 61 = .ok (.iload_n 1, 1) := by decide +kernel
theorem dX3_audit_62 : decode cX3_audit 62 = .ok (.iaload, 1) := by decide +kernel
theorem dX3_audit_63 : decode cX3_audit 63 = .ok (.ireturn, 1) := by decide +kernel
theorem dX3_auditAll_0 : decode cX3_auditAll 0 = .ok (.aload_n 0, 1) := by decide +kernel
theorem dX3_auditAll_1 : decode cX3_auditAll 1 = .ok (.invokevirtual 31, 3) := by decide +kernel
theorem dX3_auditAll_4 : decode cX3_auditAll 4 = .ok (.iconst 0, 1) := by decide +kernel
theorem dX3_auditAll_5 : decode cX3_auditAll 5 = .ok (.istore_n 1, 1) := by decide +kernel
theorem dX3_auditAll_6 : decode cX3_auditAll 6 = .ok (.iconst 0, 1) := by decide +kernel
theorem dX3_auditAll_7 : decode cX3_auditAll 7 = .ok (.istore_n 2, 1) := by decide +kernel
theorem dX3_auditAll_8 : decode cX3_auditAll 8 = .ok (.iload_n 2, 1) := by decide +kernel
theorem dX3_auditAll_9 : decode cX3_auditAll 9 = .ok (.aload_n 0, 1) := by decide +kernel
theorem dX3_auditAll_10 : decode cX3_auditAll 10 = .ok (.getfield 12, 3) := by decide +kernel
theorem dX3_auditAll_13 : decode cX3_auditAll 13 = .ok (.getfield 34, 3) := by decide +kernel
theorem dX3_auditAll_16 : decode cX3_auditAll 16 = .ok (.if_icmp .ge 28, 3) := by decide +kernel
theorem dX3_auditAll_19 : decode cX3_auditAll 19 = .ok (.iload_n 1, 1) := by decide +kernel
theorem dX3_auditAll_20 : decode cX3_auditAll 20 = .ok (.aload_n 0, 1) := by decide +kernel
theorem dX3_auditAll_21 : decode cX3_auditAll 21 = .ok (.getfield 12, 3) := by decide +kernel
theorem dX3_auditAll_24 : decode cX3_auditAll 24 = .ok (.aload_n 0, 1) := by decide +kernel
theorem dX3_auditAll_25 : decode cX3_auditAll 25 = .ok (.getfield 12, 3) := by decide +kernel
theorem dX3_auditAll_28 : decode cX3_auditAll 28 = .ok (.getfield 44, 3) := by decide +kernel
theorem dX3_auditAll_31 : decode cX3_auditAll 31 = .ok (.iload_n 2, 1) := by decide +kernel
theorem dX3_auditAll_32 : decode cX3_auditAll 32 = .ok (.aaload, 1) := by decide +kernel
theorem dX3_auditAll_33 : decode cX3_auditAll 33 = .ok (.invokevirtual 169, 3) := by decide +kernel
theorem dX3_auditAll_36 : decode cX3_auditAll 36 = .ok (.iadd, 1) := by decide +kernel
theorem dX3_auditAll_37 : decode cX3_auditAll 37 = .ok (.istore_n 1, 1) := by decide +kernel
theorem dX3_auditAll_38 : decode cX3_auditAll 38 = .ok (.iinc 2 1, 3) := by decide +kernel
theorem dX3_auditAll_41 : decode cX3_auditAll 41 = .ok (.goto (-33), 3) := by decide +kernel
theorem dX3_auditAll_44 : decode cX3_auditAll 44 = .ok (.iload_n 1, 1) := by decide +kernel
theorem dX3_auditAll_45 : decode cX3_auditAll 45 = .ok (.ireturn, 1) := by decide +kernel
theorem dX3_verdict_0 : decode cX3_verdict 0 = .ok (.aload_n 0, 1) := by decide +kernel
theorem dX3_verdict_1 : decode cX3_verdict 1 = .ok (.iload_n 1, 1) := by decide +kernel
theorem dX3_verdict_2 : decode cX3_verdict 2 = .ok (.invokevirtual 38, 3) := by decide +kernel
theorem dX3_verdict_5 : decode cX3_verdict 5 = .ok (.aload_n 0, 1) := by decide +kernel
theorem dX3_verdict_6 : decode cX3_verdict 6 = .ok (.iload_n 2, 1) := by decide +kernel
theorem dX3_verdict_7 : decode cX3_verdict 7 = .ok (.invokevirtual 38, 3) := by decide +kernel
theorem dX3_verdict_10 : decode cX3_verdict 10 = .ok (.aload_n 0, 1) := by decide +kernel
theorem dX3_verdict_11 : decode cX3_verdict 11 = .ok (.getfield 12, 3) := by decide +kernel
theorem dX3_verdict_14 : decode cX3_verdict 14 = .ok (.getfield 44, 3) := by decide +kernel
theorem dX3_verdict_17 : decode cX3_verdict 17 = .ok (.iload_n 2, 1) := by decide +kernel
theorem dX3_verdict_18 : decode cX3_verdict 18 = .ok (.aaload, 1) := by decide +kernel
theorem dX3_verdict_19 : decode cX3_verdict 19 = .ok (.getfield 161, 3) := by decide +kernel
theorem dX3_verdict_22 : decode cX3_verdict 22 = .ok (.iload_n 1, 1) := by decide +kernel
theorem dX3_verdict_23 : decode cX3_verdict 23 = .ok (.iaload, 1) := by decide +kernel
theorem dX3_verdict_24 : decode cX3_verdict 24 = .ok (.ireturn, 1) := by decide +kernel
theorem dX3_verdictMask_0 : decode cX3_verdictMask 0 = .ok (.iload_n 1, 1) := by decide +kernel
theorem dX3_verdictMask_1 : decode cX3_verdictMask 1 = .ok (.ifCond .lt 8, 3) := by decide +kernel
theorem dX3_verdictMask_4 : decode cX3_verdictMask 4 = .ok (.iload_n 1, 1) := by decide +kernel
theorem dX3_verdictMask_5 : decode cX3_verdictMask 5 = .ok (.iconst 2, 1) := by decide +kernel
theorem dX3_verdictMask_6 : decode cX3_verdictMask 6 = .ok (.if_icmp .le 13, 3) := by decide +kernel
theorem dX3_verdictMask_9 : decode cX3_verdictMask 9 = .ok (.new 24, 3) := by decide +kernel
theorem dX3_verdictMask_12 : decode cX3_verdictMask 12 = .ok (.dup, 1) := by decide +kernel
theorem dX3_verdictMask_13 : decode cX3_verdictMask 13 = .ok (.ldc 173, 2) := by decide +kernel
theorem dX3_verdictMask_15 : decode cX3_verdictMask 15 = .ok (.invokespecial 28, 3) := by decide +kernel
theorem dX3_verdictMask_18 : decode cX3_verdictMask 18 = .ok (.athrow, 1) := by decide +kernel
theorem dX3_verdictMask_19 : decode cX3_verdictMask 19 = .ok (.iconst 0, 1) := by decide +kernel
theorem dX3_verdictMask_20 : decode cX3_verdictMask 20 = .ok (.istore_n 2, 1) := by decide +kernel
theorem dX3_verdictMask_21 : decode cX3_verdictMask 21 = .ok (.iconst 0, 1) := by decide +kernel
theorem dX3_verdictMask_22 : decode cX3_verdictMask 22 = .ok (.istore_n 3, 1) := by decide +kernel
theorem dX3_verdictMask_23 : decode cX3_verdictMask 23 = .ok (.iload_n 3, 1) := by decide +kernel
theorem dX3_verdictMask_24 : decode cX3_verdictMask 24 = .ok (.aload_n 0, 1) := by decide +kernel
theorem dX3_verdictMask_25 : decode cX3_verdictMask 25 = .ok (.getfield 12, 3) := by decide +kernel
theorem dX3_verdictMask_28 : decode cX3_verdictMask 28 = .ok (.getfield 34, 3) := by decide +kernel
theorem dX3_verdictMask_31 : decode cX3_verdictMask 31 = .ok (.if_icmp .ge 35, 3) := by decide +kernel
theorem dX3_verdictMask_34 : decode cX3_verdictMask 34 = .ok (.aload_n 0, 1) := by decide +kernel
theorem dX3_verdictMask_35 : decode cX3_verdictMask 35 = .ok (.getfield 12, 3) := by decide +kernel
theorem dX3_verdictMask_38 : decode cX3_verdictMask 38 = .ok (.aload_n 0, 1) := by decide +kernel
theorem dX3_verdictMask_39 : decode cX3_verdictMask 39 = .ok (.getfield 12, 3) := by decide +kernel
theorem dX3_verdictMask_42 : decode cX3_verdictMask 42 = .ok (.getfield 44, 3) := by decide +kernel
theorem dX3_verdictMask_45 : decode cX3_verdictMask 45 = .ok (.iload_n 3, 1) := by decide +kernel
theorem dX3_verdictMask_46 : decode cX3_verdictMask 46 = .ok (.aaload, 1) := by decide +kernel
theorem dX3_verdictMask_47 : decode cX3_verdictMask 47 = .ok (.iload_n 1, 1) := by decide +kernel
theorem dX3_verdictMask_48 : decode cX3_verdictMask 48 = .ok (.invokevirtual 175, 3) := by decide +kernel
theorem dX3_verdictMask_51 : decode cX3_verdictMask 51 = .ok (.ifCond .eq 9, 3) := by decide +kernel
theorem dX3_verdictMask_54 : decode cX3_verdictMask 54 = .ok (.iload_n 2, 1) := by decide +kernel
theorem dX3_verdictMask_55 : decode cX3_verdictMask 55 = .ok (.iconst 1, 1) := by decide +kernel
theorem dX3_verdictMask_56 : decode cX3_verdictMask 56 = .ok (.iload_n 3, 1) := by decide +kernel
theorem dX3_verdictMask_57 : decode cX3_verdictMask 57 = .ok (.ishl, 1) := by decide +kernel
theorem dX3_verdictMask_58 : decode cX3_verdictMask 58 = .ok (.ior, 1) := by decide +kernel
theorem dX3_verdictMask_59 : decode cX3_verdictMask 59 = .ok (.istore_n 2, 1) := by decide +kernel
theorem dX3_verdictMask_60 : decode cX3_verdictMask 60 = .ok (.iinc 3 1, 3) := by decide +kernel
theorem dX3_verdictMask_63 : decode cX3_verdictMask 63 = .ok (.goto (-40), 3) := by decide +kernel
theorem dX3_verdictMask_66 : decode cX3_verdictMask 66 = .ok (.iload_n 2, 1) := by decide +kernel
theorem dX3_verdictMask_67 : decode cX3_verdictMask 67 = .ok (.ireturn, 1) := by decide +kernel
theorem dX3_evidenceCount_0 : decode cX3_evidenceCount 0 = .ok (.aload_n 0, 1) := by decide +kernel
theorem dX3_evidenceCount_1 : decode cX3_evidenceCount 1 = .ok (.getfield 12, 3) := by decide +kernel
theorem dX3_evidenceCount_4 : decode cX3_evidenceCount 4 = .ok (.getfield 179, 3) := by decide +kernel
theorem dX3_evidenceCount_7 : decode cX3_evidenceCount 7 = .ok (.getfield 52, 3) := by decide +kernel
theorem dX3_evidenceCount_10 : decode cX3_evidenceCount 10 = .ok (.ireturn, 1) := by decide +kernel
theorem dX3_evidence_0 : decode cX3_evidence 0 = .ok (.iload_n 1, 1) := by decide +kernel
theorem dX3_evidence_1 : decode cX3_evidence 1 = .ok (.ifCond .lt 17, 3) := by decide +kernel
theorem dX3_evidence_4 : decode cX3_evidence 4 = .ok (.iload_n 1, 1) := by decide +kernel
theorem dX3_evidence_5 : decode cX3_evidence 5 = .ok (.aload_n 0, 1) := by decide +kernel
theorem dX3_evidence_6 : decode cX3_evidence 6 = .ok (.getfield 12, 3) := by decide +kernel
theorem dX3_evidence_9 : decode cX3_evidence 9 = .ok (.getfield 179, 3) := by decide +kernel
theorem dX3_evidence_12 : decode cX3_evidence 12 = .ok (.getfield 52, 3) := by decide +kernel
theorem dX3_evidence_15 : decode cX3_evidence 15 = .ok (.if_icmp .lt 13, 3) := by decide +kernel
theorem dX3_evidence_18 : decode cX3_evidence 18 = .ok (.new 133, 3) := by decide +kernel
theorem dX3_evidence_21 : decode cX3_evidence 21 = .ok (.dup, 1) := by decide +kernel
theorem dX3_evidence_22 : decode cX3_evidence 22 = .ok (.ldc 182, 2) := by decide +kernel
theorem dX3_evidence_24 : decode cX3_evidence 24 = .ok (.invokespecial 137, 3) := by decide +kernel
theorem dX3_evidence_27 : decode cX3_evidence 27 = .ok (.athrow, 1) := by decide +kernel
theorem dX3_evidence_28 : decode cX3_evidence 28 = .ok (.iload_n 2, 1) := by decide +kernel
theorem dX3_evidence_29 : decode cX3_evidence 29 = .ok (.ifCond .lt 8, 3) := by decide +kernel
theorem dX3_evidence_32 : decode cX3_evidence 32 = .ok (.iload_n 2, 1) := by decide +kernel
theorem dX3_evidence_33 : decode cX3_evidence 33 = .ok (.iconst 4, 1) := by decide +kernel
theorem dX3_evidence_34 : decode cX3_evidence 34 = .ok (.if_icmp .lt 13, 3) := by decide +kernel
theorem dX3_evidence_37 : decode cX3_evidence 37 = .ok (.new 24, 3) := by decide +kernel
theorem dX3_evidence_40 : decode cX3_evidence 40 = .ok (.dup, 1) := by decide +kernel
theorem dX3_evidence_41 : decode cX3_evidence 41 = .ok (.ldc 146, 2) := by decide +kernel
theorem dX3_evidence_43 : decode cX3_evidence 43 = .ok (.invokespecial 28, 3) := by decide +kernel
theorem dX3_evidence_46 : decode cX3_evidence 46 = .ok (.athrow, 1) := by decide +kernel
theorem dX3_evidence_47 : decode cX3_evidence 47 = .ok (.aload_n 0, 1) := by decide +kernel
theorem dX3_evidence_48 : decode cX3_evidence 48 = .ok (.getfield 12, 3) := by decide +kernel
theorem dX3_evidence_51 : decode cX3_evidence 51 = .ok (.getfield 179, 3) := by decide +kernel
theorem dX3_evidence_54 : decode cX3_evidence 54 = .ok (.iload_n 1, 1) := by decide +kernel
theorem dX3_evidence_55 : decode cX3_evidence 55 = .ok (.iload_n 2, 1) := by decide +kernel
theorem dX3_evidence_56 : decode cX3_evidence 56 = .ok (.invokevirtual 116, 3) := by decide +kernel
theorem dX3_evidence_59 : decode cX3_evidence 59 = .ok (.ireturn, 1) := by decide +kernel
theorem dX3_undo_0 : decode cX3_undo 0 = .ok (.aload_n 0, 1) := by decide +kernel
theorem dX3_undo_1 : decode cX3_undo 1 = .ok (.getfield 184, 3) := by decide +kernel
theorem dX3_undo_4 : decode cX3_undo 4 = .ok (.ifCond .ne 13, 3) := by decide +kernel
theorem dX3_undo_7 : decode cX3_undo 7 = .ok (.new 63, 3) := by decide +kernel
theorem dX3_undo_10 : decode cX3_undo 10 = .ok (.dup, 1) := by decide +kernel
theorem dX3_undo_11 : decode cX3_undo 11 = .ok (.ldc 187, 2) := by decide +kernel
theorem dX3_undo_13 : decode cX3_undo 13 = .ok (.invokespecial 67, 3) := by decide +kernel
theorem dX3_undo_16 : decode cX3_undo 16 = .ok (.athrow, 1) := by decide +kernel
theorem dX3_undo_17 : decode cX3_undo 17 = .ok (.aload_n 0, 1) := by decide +kernel
theorem dX3_undo_18 : decode cX3_undo 18 = .ok (.aload_n 0, 1) := by decide +kernel
theorem dX3_undo_19 : decode cX3_undo 19 = .ok (.getfield 189, 3) := by decide +kernel
theorem dX3_undo_22 : decode cX3_undo 22 = .ok (.iconst 4, 1) := by decide +kernel
theorem dX3_undo_23 : decode cX3_undo 23 = .ok (.iadd, 1) := by decide +kernel
theorem dX3_undo_24 : decode cX3_undo 24 = .ok (.iconst 1, 1) := by decide +kernel
theorem dX3_undo_25 : decode cX3_undo 25 = .ok (.isub, 1) := by decide +kernel
theorem dX3_undo_26 : decode cX3_undo 26 = .ok (.iconst 4, 1) := by decide +kernel
theorem dX3_undo_27 : decode cX3_undo 27 = .ok (.irem, 1) := by decide +kernel
theorem dX3_undo_28 : decode cX3_undo 28 = .ok (.putfield 189, 3) := by decide +kernel
theorem dX3_undo_31 : decode cX3_undo 31 = .ok (.aload_n 0, 1) := by decide +kernel
theorem dX3_undo_32 : decode cX3_undo 32 = .ok (.getfield 12, 3) := by decide +kernel
theorem dX3_undo_35 : decode cX3_undo 35 = .ok (.aload_n 0, 1) := by decide +kernel
theorem dX3_undo_36 : decode cX3_undo 36 = .ok (.getfield 20, 3) := by decide +kernel
theorem dX3_undo_39 : decode cX3_undo 39 = .ok (.aload_n 0, 1) := by decide +kernel
theorem dX3_undo_40 : decode cX3_undo 40 = .ok (.getfield 189, 3) := by decide +kernel
theorem dX3_undo_43 : decode cX3_undo 43 = .ok (.aaload, 1) := by decide +kernel
theorem dX3_undo_44 : decode cX3_undo 44 = .ok (.invokevirtual 192, 3) := by decide +kernel
theorem dX3_undo_47 : decode cX3_undo 47 = .ok (.aload_n 0, 1) := by decide +kernel
theorem dX3_undo_48 : decode cX3_undo 48 = .ok (.dup, 1) := by decide +kernel
theorem dX3_undo_49 : decode cX3_undo 49 = .ok (.getfield 184, 3) := by decide +kernel
theorem dX3_undo_52 : decode cX3_undo 52 = .ok (.iconst 1, 1) := by decide +kernel
theorem dX3_undo_53 : decode cX3_undo 53 = .ok (.isub, 1) := by decide +kernel
theorem dX3_undo_54 : decode cX3_undo 54 = .ok (.putfield 184, 3) := by decide +kernel
theorem dX3_undo_57 : decode cX3_undo 57 = .ok (.aload_n 0, 1) := by decide +kernel
theorem dX3_undo_58 : decode cX3_undo 58 = .ok (.getfield 184, 3) := by decide +kernel
theorem dX3_undo_61 : decode cX3_undo 61 = .ok (.ireturn, 1) := by decide +kernel
theorem dX3_digest_0 : decode cX3_digest 0 = .ok (.ldc2_w 196, 3) := by decide +kernel
theorem dX3_digest_3 : decode cX3_digest 3 = .ok (.aload_n 0, 1) := by decide +kernel
theorem dX3_digest_4 : decode cX3_digest 4 = .ok (.getfield 184, 3) := by decide +kernel
theorem dX3_digest_7 : decode cX3_digest 7 = .ok (.i2l, 1) := by decide +kernel
theorem dX3_digest_8 : decode cX3_digest 8 = .ok (.invokestatic 198, 3) := by decide +kernel
theorem dX3_digest_11 : decode cX3_digest 11 = .ok (.lstore_n 1, 1) := by decide +kernel
theorem dX3_digest_12 : decode cX3_digest 12 = .ok (.lload_n 1, 1) := by decide +kernel
theorem dX3_digest_13 : decode cX3_digest 13 = .ok (.aload_n 0, 1) := by decide +kernel
theorem dX3_digest_14 : decode cX3_digest 14 = .ok (.getfield 12, 3) := by decide +kernel
theorem dX3_digest_17 : decode cX3_digest 17 = .ok (.getfield 34, 3) := by decide +kernel
theorem dX3_digest_20 : decode cX3_digest 20 = .ok (.i2l, 1) := by decide +kernel
theorem dX3_digest_21 : decode cX3_digest 21 = .ok (.invokestatic 198, 3) := by decide +kernel
theorem dX3_digest_24 : decode cX3_digest 24 = .ok (.lstore_n 1, 1) := by decide +kernel
theorem dX3_digest_25 : decode cX3_digest 25 = .ok (.iconst 0, 1) := by decide +kernel
theorem dX3_digest_26 : decode cX3_digest 26 = .ok (.istore_n 3, 1) := by decide +kernel
theorem dX3_digest_27 : decode cX3_digest 27 = .ok (.iload_n 3, 1) := by decide +kernel
theorem dX3_digest_28 : decode cX3_digest 28 = .ok (.aload_n 0, 1) := by decide +kernel
theorem dX3_digest_29 : decode cX3_digest 29 = .ok (.getfield 12, 3) := by decide +kernel
theorem dX3_digest_32 : decode cX3_digest 32 = .ok (.getfield 34, 3) := by decide +kernel
theorem dX3_digest_35 : decode cX3_digest 35 = .ok (.if_icmp .ge 30, 3) := by decide +kernel
theorem dX3_digest_38 : decode cX3_digest 38 = .ok (.lload_n 1, 1) := by decide +kernel
theorem dX3_digest_39 : decode cX3_digest 39 = .ok (.aload_n 0, 1) := by decide +kernel
theorem dX3_digest_40 : decode cX3_digest 40 = .ok (.getfield 12, 3) := by decide +kernel
theorem dX3_digest_43 : decode cX3_digest 43 = .ok (.getfield 44, 3) := by decide +kernel
theorem dX3_digest_46 : decode cX3_digest 46 = .ok (.iload_n 3, 1) := by decide +kernel
theorem dX3_digest_47 : decode cX3_digest 47 = .ok (.aaload, 1) := by decide +kernel
theorem dX3_digest_48 : decode cX3_digest 48 = .ok (.aload_n 0, 1) := by decide +kernel
theorem dX3_digest_49 : decode cX3_digest 49 = .ok (.getfield 12, 3) := by decide +kernel
theorem dX3_digest_52 : decode cX3_digest 52 = .ok (.getfield 34, 3) := by decide +kernel
theorem dX3_digest_55 : decode cX3_digest 55 = .ok (.invokestatic 202, 3) := by decide +kernel
theorem dX3_digest_58 : decode cX3_digest 58 = .ok (.lstore_n 1, 1) := by decide +kernel
theorem dX3_digest_59 : decode cX3_digest 59 = .ok (.iinc 3 1, 3) := by decide +kernel
theorem dX3_digest_62 : decode cX3_digest 62 = .ok (.goto (-35), 3) := by decide +kernel
theorem dX3_digest_65 : decode cX3_digest 65 = .ok (.lload_n 1, 1) := by decide +kernel
theorem dX3_digest_66 : decode cX3_digest 66 = .ok (.aload_n 0, 1) := by decide +kernel
theorem dX3_digest_67 : decode cX3_digest 67 = .ok (.getfield 12, 3) := by decide +kernel
theorem dX3_digest_70 : decode cX3_digest 70 = .ok (.getfield 48, 3) := by decide +kernel
theorem dX3_digest_73 : decode cX3_digest 73 = .ok (.invokestatic 206, 3) := by decide +kernel
theorem dX3_digest_76 : decode cX3_digest 76 = .ok (.lstore_n 1, 1) := by decide +kernel
theorem dX3_digest_77 : decode cX3_digest 77 = .ok (.lload_n 1, 1) := by decide +kernel
theorem dX3_digest_78 : decode cX3_digest 78 = .ok (.aload_n 0, 1) := by decide +kernel
theorem dX3_digest_79 : decode cX3_digest 79 = .ok (.getfield 12, 3) := by decide +kernel
theorem dX3_digest_82 : decode cX3_digest 82 = .ok (.getfield 179, 3) := by decide +kernel
theorem dX3_digest_85 : decode cX3_digest 85 = .ok (.invokestatic 210, 3) := by decide +kernel
theorem dX3_digest_88 : decode cX3_digest 88 = .ok (.lreturn, 1) := by decide +kernel
theorem dX3_requireMachine_0 : decode cX3_requireMachine 0 = .ok (.aload_n 0, 1) := by decide +kernel
theorem dX3_requireMachine_1 : decode cX3_requireMachine 1 = .ok (.getfield 12, 3) := by decide +kernel
theorem dX3_requireMachine_4 : decode cX3_requireMachine 4 = .ok (.iload_n 1, 1) := by decide +kernel
theorem dX3_requireMachine_5 : decode cX3_requireMachine 5 = .ok (.invokevirtual 213, 3) := by decide +kernel
theorem dX3_requireMachine_8 : decode cX3_requireMachine 8 = .ok (.ifCond .ne 13, 3) := by decide +kernel
theorem dX3_requireMachine_11 : decode cX3_requireMachine 11 = .ok (.new 133, 3) := by decide +kernel
theorem dX3_requireMachine_14 : decode cX3_requireMachine 14 = .ok (.dup, 1) := by decide +kernel
theorem dX3_requireMachine_15 : decode cX3_requireMachine 15 = .ok (.ldc 216, 2) := by decide +kernel
theorem dX3_requireMachine_17 : decode cX3_requireMachine 17 = .ok (.invokespecial 137, 3) := by decide +kernel
theorem dX3_requireMachine_20 : decode cX3_requireMachine 20 = .ok (.athrow, 1) := by decide +kernel
theorem dX3_requireMachine_21 : decode cX3_requireMachine 21 = .ok (.return_, 1) := by decide +kernel
theorem dX3_requireEntry_0 : decode cX3_requireEntry 0 = .ok (.aload_n 0, 1) := by decide +kernel
theorem dX3_requireEntry_1 : decode cX3_requireEntry 1 = .ok (.iload_n 1, 1) := by decide +kernel
theorem dX3_requireEntry_2 : decode cX3_requireEntry 2 = .ok (.invokevirtual 38, 3) := by decide +kernel
theorem dX3_requireEntry_5 : decode cX3_requireEntry 5 = .ok (.iload_n 2, 1) := by decide +kernel
theorem dX3_requireEntry_6 : decode cX3_requireEntry 6 = .ok (.ifCond .lt 22, 3) := by decide +kernel
theorem dX3_requireEntry_9 : decode cX3_requireEntry 9 = .ok (.iload_n 2, 1) := by decide +kernel
theorem dX3_requireEntry_10 : decode cX3_requireEntry 10 = .ok (.aload_n 0, 1) := by decide +kernel
theorem dX3_requireEntry_11 : decode cX3_requireEntry 11 = .ok (.getfield 12, 3) := by decide +kernel
theorem dX3_requireEntry_14 : decode cX3_requireEntry 14 = .ok (.getfield 44, 3) := by decide +kernel
theorem dX3_requireEntry_17 : decode cX3_requireEntry 17 = .ok (.iload_n 1, 1) := by decide +kernel
theorem dX3_requireEntry_18 : decode cX3_requireEntry 18 = .ok (.aaload, 1) := by decide +kernel
theorem dX3_requireEntry_19 : decode cX3_requireEntry 19 = .ok (.getfield 113, 3) := by decide +kernel
theorem dX3_requireEntry_22 : decode cX3_requireEntry 22 = .ok (.getfield 52, 3) := by decide +kernel
theorem dX3_requireEntry_25 : decode cX3_requireEntry 25 = .ok (.if_icmp .lt 13, 3) := by decide +kernel
theorem dX3_requireEntry_28 : decode cX3_requireEntry 28 = .ok (.new 133, 3) := by decide +kernel
theorem dX3_requireEntry_31 : decode cX3_requireEntry 31 = .ok (.dup, 1) := by decide +kernel
theorem dX3_requireEntry_32 : decode cX3_requireEntry 32 = .ok (.ldc 218, 2) := by decide +kernel
theorem dX3_requireEntry_34 : decode cX3_requireEntry 34 = .ok (.invokespecial 137, 3) := by decide +kernel
theorem dX3_requireEntry_37 : decode cX3_requireEntry 37 = .ok (.athrow, 1) := by decide +kernel
theorem dX3_requireEntry_38 : decode cX3_requireEntry 38 = .ok (.return_, 1) := by decide +kernel
theorem dX3_requireValue_0 : decode cX3_requireValue 0 = .ok (.iload_n 0, 1) := by decide +kernel
theorem dX3_requireValue_1 : decode cX3_requireValue 1 = .ok (.ifCond .lt 10, 3) := by decide +kernel
theorem dX3_requireValue_4 : decode cX3_requireValue 4 = .ok (.iload_n 0, 1) := by decide +kernel
theorem dX3_requireValue_5 : decode cX3_requireValue 5 = .ok (.sipush 1000, 3) := by decide +kernel
theorem dX3_requireValue_8 : decode cX3_requireValue 8 = .ok (.if_icmp .lt 13, 3) := by decide +kernel
theorem dX3_requireValue_11 : decode cX3_requireValue 11 = .ok (.new 24, 3) := by decide +kernel
theorem dX3_requireValue_14 : decode cX3_requireValue 14 = .ok (.dup, 1) := by decide +kernel
theorem dX3_requireValue_15 : decode cX3_requireValue 15 = .ok (.ldc 220, 2) := by decide +kernel
theorem dX3_requireValue_17 : decode cX3_requireValue 17 = .ok (.invokespecial 28, 3) := by decide +kernel
theorem dX3_requireValue_20 : decode cX3_requireValue 20 = .ok (.athrow, 1) := by decide +kernel
theorem dX3_requireValue_21 : decode cX3_requireValue 21 = .ok (.return_, 1) := by decide +kernel
theorem dX3_save_0 : decode cX3_save 0 = .ok (.aload_n 0, 1) := by decide +kernel
theorem dX3_save_1 : decode cX3_save 1 = .ok (.getfield 20, 3) := by decide +kernel
theorem dX3_save_4 : decode cX3_save 4 = .ok (.aload_n 0, 1) := by decide +kernel
theorem dX3_save_5 : decode cX3_save 5 = .ok (.getfield 189, 3) := by decide +kernel
theorem dX3_save_8 : decode cX3_save 8 = .ok (.aaload, 1) := by decide +kernel
theorem dX3_save_9 : decode cX3_save 9 = .ok (.aload_n 0, 1) := by decide +kernel
theorem dX3_save_10 : decode cX3_save 10 = .ok (.getfield 12, 3) := by decide +kernel
theorem dX3_save_13 : decode cX3_save 13 = .ok (.invokevirtual 192, 3) := by decide +kernel
theorem dX3_save_16 : decode cX3_save 16 = .ok (.aload_n 0, 1) := by decide +kernel
theorem dX3_save_17 : decode cX3_save 17 = .ok (.aload_n 0, 1) := by decide +kernel
theorem dX3_save_18 : decode cX3_save 18 = .ok (.getfield 189, 3) := by decide +kernel
theorem dX3_save_21 : decode cX3_save 21 = .ok (.iconst 1, 1) := by decide +kernel
theorem dX3_save_22 : decode cX3_save 22 = .ok (.iadd, 1) := by decide +kernel
theorem dX3_save_23 : decode cX3_save 23 = .ok (.iconst 4, 1) := by decide +kernel
theorem dX3_save_24 : decode cX3_save 24 = .ok (.irem, 1) := by decide +kernel
theorem dX3_save_25 : decode cX3_save 25 = .ok (.putfield 189, 3) := by decide +kernel
theorem dX3_save_28 : decode cX3_save 28 = .ok (.aload_n 0, 1) := by decide +kernel
theorem dX3_save_29 : decode cX3_save 29 = .ok (.getfield 184, 3) := by decide +kernel
theorem dX3_save_32 : decode cX3_save 32 = .ok (.iconst 4, 1) := by decide +kernel
theorem dX3_save_33 : decode cX3_save 33 = .ok (.if_icmp .ge 13, 3) := by decide +kernel
theorem dX3_save_36 : decode cX3_save 36 = .ok (.aload_n 0, 1) := by decide +kernel
theorem dX3_save_37 : decode cX3_save 37 = .ok (.dup, 1) := by decide +kernel
theorem dX3_save_38 : decode cX3_save 38 = .ok (.getfield 184, 3) := by decide +kernel
theorem dX3_save_41 : decode cX3_save 41 = .ok (.iconst 1, 1) := by decide +kernel
theorem dX3_save_42 : decode cX3_save 42 = .ok (.iadd, 1) := by decide +kernel
theorem dX3_save_43 : decode cX3_save 43 = .ok (.putfield 184, 3) := by decide +kernel
theorem dX3_save_46 : decode cX3_save 46 = .ok (.return_, 1) := by decide +kernel
theorem dX3_mix_0 : decode cX3_mix 0 = .ok (.ldc2_w 222, 3) := by decide +kernel
theorem dX3_mix_3 : decode cX3_mix 3 = .ok (.lload_n 0, 1) := by decide +kernel
theorem dX3_mix_4 : decode cX3_mix 4 = .ok (.lmul, 1) := by decide +kernel
theorem dX3_mix_5 : decode cX3_mix 5 = .ok (.lload_n 2, 1) := by decide +kernel
theorem dX3_mix_6 : decode cX3_mix 6 = .ok (.ladd, 1) := by decide +kernel
theorem dX3_mix_7 : decode cX3_mix 7 = .ok (.lreturn, 1) := by decide +kernel
theorem dX3_mixMachine_0 : decode cX3_mixMachine 0 = .ok (.lload_n 0, 1) := by decide +kernel
theorem dX3_mixMachine_1 : decode cX3_mixMachine 1 = .ok (.aload_n 2, 1) := by decide +kernel
theorem dX3_mixMachine_2 : decode cX3_mixMachine 2 = .ok (.getfield 72, 3) := by decide +kernel
theorem dX3_mixMachine_5 : decode cX3_mixMachine 5 = .ok (.i2l, 1) := by decide +kernel
theorem dX3_mixMachine_6 : decode cX3_mixMachine 6 = .ok (.invokestatic 198, 3) := by decide +kernel
theorem dX3_mixMachine_9 : decode cX3_mixMachine 9 = .ok (.lstore 4, 2) := by decide +kernel
theorem dX3_mixMachine_11 : decode cX3_mixMachine 11 = .ok (.lload 4, 2) := by decide +kernel
theorem dX3_mixMachine_13 : decode cX3_mixMachine 13 = .ok (.aload_n 2, 1) := by decide +kernel
theorem dX3_mixMachine_14 : decode cX3_mixMachine 14 = .ok (.getfield 90, 3) := by decide +kernel
theorem dX3_mixMachine_17 : decode cX3_mixMachine 17 = .ok (.ifCond .eq 7, 3) := by decide +kernel
theorem dX3_mixMachine_20 : decode cX3_mixMachine 20 = .ok (.lconst 1, 1) := by decide +kernel
theorem dX3_mixMachine_21 : decode cX3_mixMachine 21 = .ok (.goto 4, 3) := by decide +kernel
theorem dX3_mixMachine_24 : decode cX3_mixMachine 24 = .ok (.lconst 0, 1) := by decide +kernel
theorem dX3_mixMachine_25 : decode cX3_mixMachine 25 = .ok (.invokestatic 198, 3) := by decide +kernel
theorem dX3_mixMachine_28 : decode cX3_mixMachine 28 = .ok (.lstore 4, 2) := by decide +kernel
theorem dX3_mixMachine_30 : decode cX3_mixMachine 30 = .ok (.lload 4, 2) := by decide +kernel
theorem dX3_mixMachine_32 : decode cX3_mixMachine 32 = .ok (.aload_n 2, 1) := by decide +kernel
theorem dX3_mixMachine_33 : decode cX3_mixMachine 33 = .ok (.getfield 106, 3) := by decide +kernel
theorem dX3_mixMachine_36 : decode cX3_mixMachine 36 = .ok (.ifCond .eq 7, 3) := by decide +kernel
theorem dX3_mixMachine_39 : decode cX3_mixMachine 39 = .ok (.lconst 1, 1) := by decide +kernel
theorem dX3_mixMachine_40 : decode cX3_mixMachine 40 = .ok (.goto 4, 3) := by decide +kernel
theorem dX3_mixMachine_43 : decode cX3_mixMachine 43 = .ok (.lconst 0, 1) := by decide +kernel
theorem dX3_mixMachine_44 : decode cX3_mixMachine 44 = .ok (.invokestatic 198, 3) := by decide +kernel
theorem dX3_mixMachine_47 : decode cX3_mixMachine 47 = .ok (.lstore 4, 2) := by decide +kernel
theorem dX3_mixMachine_49 : decode cX3_mixMachine 49 = .ok (.lload 4, 2) := by decide +kernel
theorem dX3_mixMachine_51 : decode cX3_mixMachine 51 = .ok (.aload_n 2, 1) := by decide +kernel
theorem dX3_mixMachine_52 : decode cX3_mixMachine 52 = .ok (.getfield 153, 3) := by decide +kernel
theorem dX3_mixMachine_55 : decode cX3_mixMachine 55 = .ok (.i2l, 1) := by decide +kernel
theorem dX3_mixMachine_56 : decode cX3_mixMachine 56 = .ok (.invokestatic 198, 3) := by decide +kernel
theorem dX3_mixMachine_59 : decode cX3_mixMachine 59 = .ok (.lstore 4, 2) := by decide +kernel
theorem dX3_mixMachine_61 : decode cX3_mixMachine 61 = .ok (.aload_n 2, 1) := by decide +kernel
theorem dX3_mixMachine_62 : decode cX3_mixMachine 62 = .ok (.getfield 113, 3) := by decide +kernel
theorem dX3_mixMachine_65 : decode cX3_mixMachine 65 = .ok (.getfield 52, 3) := by decide +kernel
theorem dX3_mixMachine_68 : decode cX3_mixMachine 68 = .ok (.istore 6, 2) := by decide +kernel
theorem dX3_mixMachine_70 : decode cX3_mixMachine 70 = .ok (.lload 4, 2) := by decide +kernel
theorem dX3_mixMachine_72 : decode cX3_mixMachine 72 = .ok (.iload 6, 2) := by decide +kernel
theorem dX3_mixMachine_74 : decode cX3_mixMachine 74 = .ok (.i2l, 1) := by decide +kernel
theorem dX3_mixMachine_75 : decode cX3_mixMachine 75 = .ok (.invokestatic 198, 3) := by decide +kernel
theorem dX3_mixMachine_78 : decode cX3_mixMachine 78 = .ok (.lstore 4, 2) := by decide +kernel
theorem dX3_mixMachine_80 : decode cX3_mixMachine 80 = .ok (.iconst 0, 1) := by decide +kernel
theorem dX3_mixMachine_81 : decode cX3_mixMachine 81 = .ok (.istore 7, 2) := by decide +kernel
theorem dX3_mixMachine_83 : decode cX3_mixMachine 83 = .ok (.iload 7, 2) := by decide +kernel
theorem dX3_mixMachine_85 : decode cX3_mixMachine 85 = .ok (.iload 6, 2) := by decide +kernel
theorem dX3_mixMachine_87 : decode cX3_mixMachine 87 = .ok (.if_icmp .ge 23, 3) := by decide +kernel
theorem dX3_mixMachine_90 : decode cX3_mixMachine 90 = .ok (.lload 4, 2) := by decide +kernel
theorem dX3_mixMachine_92 : decode cX3_mixMachine 92 = .ok (.aload_n 2, 1) := by decide +kernel
theorem dX3_mixMachine_93 : decode cX3_mixMachine 93 = .ok (.iload 7, 2) := by decide +kernel
theorem dX3_mixMachine_95 : decode cX3_mixMachine 95 = .ok (.invokevirtual 129, 3) := by decide +kernel
theorem dX3_mixMachine_98 : decode cX3_mixMachine 98 = .ok (.i2l, 1) := by decide +kernel
theorem dX3_mixMachine_99 : decode cX3_mixMachine 99 = .ok (.invokestatic 198, 3) := by decide +kernel
theorem dX3_mixMachine_102 : decode cX3_mixMachine 102 = .ok (.lstore 4, 2) := by decide +kernel
theorem dX3_mixMachine_104 : decode cX3_mixMachine 104 = .ok (.iinc 7 1, 3) := by decide +kernel
theorem dX3_mixMachine_107 : decode cX3_mixMachine 107 = .ok (.goto (-24), 3) := by decide +kernel
theorem dX3_mixMachine_110 : decode cX3_mixMachine 110 = .ok (.lload 4, 2) := by decide +kernel
theorem dX3_mixMachine_112 : decode cX3_mixMachine 112 = .ok (.aload_n 2, 1) := by decide +kernel
theorem dX3_mixMachine_113 : decode cX3_mixMachine 113 = .ok (.iload 6, 2) := by decide +kernel
theorem dX3_mixMachine_115 : decode cX3_mixMachine 115 = .ok (.invokevirtual 138, 3) := by decide +kernel
theorem dX3_mixMachine_118 : decode cX3_mixMachine 118 = .ok (.i2l, 1) := by decide +kernel
theorem dX3_mixMachine_119 : decode cX3_mixMachine 119 = .ok (.invokestatic 198, 3) := by decide +kernel
theorem dX3_mixMachine_122 : decode cX3_mixMachine 122 = .ok (.lstore 4, 2) := by decide +kernel
theorem dX3_mixMachine_124 : decode cX3_mixMachine 124 = .ok (.lload 4, 2) := by decide +kernel
theorem dX3_mixMachine_126 : decode cX3_mixMachine 126 = .ok (.aload_n 2, 1) := by decide +kernel
theorem dX3_mixMachine_127 : decode cX3_mixMachine 127 = .ok (.getfield 141, 3) := by decide +kernel
theorem dX3_mixMachine_130 : decode cX3_mixMachine 130 = .ok (.getfield 52, 3) := by decide +kernel
theorem dX3_mixMachine_133 : decode cX3_mixMachine 133 = .ok (.i2l, 1) := by decide +kernel
theorem dX3_mixMachine_134 : decode cX3_mixMachine 134 = .ok (.invokestatic 198, 3) := by decide +kernel
theorem dX3_mixMachine_137 : decode cX3_mixMachine 137 = .ok (.lstore 4, 2) := by decide +kernel
theorem dX3_mixMachine_139 : decode cX3_mixMachine 139 = .ok (.lload 4, 2) := by decide +kernel
theorem dX3_mixMachine_141 : decode cX3_mixMachine 141 = .ok (.aload_n 2, 1) := by decide +kernel
theorem dX3_mixMachine_142 : decode cX3_mixMachine 142 = .ok (.getfield 94, 3) := by decide +kernel
theorem dX3_mixMachine_145 : decode cX3_mixMachine 145 = .ok (.getfield 52, 3) := by decide +kernel
theorem dX3_mixMachine_148 : decode cX3_mixMachine 148 = .ok (.i2l, 1) := by decide +kernel
theorem dX3_mixMachine_149 : decode cX3_mixMachine 149 = .ok (.invokestatic 198, 3) := by decide +kernel
theorem dX3_mixMachine_152 : decode cX3_mixMachine 152 = .ok (.lstore 4, 2) := by decide +kernel
theorem dX3_mixMachine_154 : decode cX3_mixMachine 154 = .ok (.iconst 0, 1) := by decide +kernel
theorem dX3_mixMachine_155 : decode cX3_mixMachine 155 = .ok (.istore 7, 2) := by decide +kernel
theorem dX3_mixMachine_157 : decode cX3_mixMachine 157 = .ok (.iload 7, 2) := by decide +kernel
theorem dX3_mixMachine_159 : decode cX3_mixMachine 159 = .ok (.iload_n 3, 1) := by decide +kernel
theorem dX3_mixMachine_160 : decode cX3_mixMachine 160 = .ok (.if_icmp .ge 24, 3) := by decide +kernel
theorem dX3_mixMachine_163 : decode cX3_mixMachine 163 = .ok (.lload 4, 2) := by decide +kernel
theorem dX3_mixMachine_165 : decode cX3_mixMachine 165 = .ok (.aload_n 2, 1) := by decide +kernel
theorem dX3_mixMachine_166 : decode cX3_mixMachine 166 = .ok (.getfield 161, 3) := by decide +kernel
theorem dX3_mixMachine_169 : decode cX3_mixMachine 169 = .ok (.iload 7, 2) := by decide +kernel
theorem dX3_mixMachine_171 : decode cX3_mixMachine 171 = .ok (.iaload, 1) := by decide +kernel
theorem dX3_mixMachine_172 : decode cX3_mixMachine 172 = .ok (.i2l, 1) := by decide +kernel
theorem dX3_mixMachine_173 : decode cX3_mixMachine 173 = .ok (.invokestatic 198, 3) := by decide +kernel
theorem dX3_mixMachine_176 : decode cX3_mixMachine 176 = .ok (.lstore 4, 2) := by decide +kernel
theorem dX3_mixMachine_178 : decode cX3_mixMachine 178 = .ok (.iinc 7 1, 3) := by decide +kernel
theorem dX3_mixMachine_181 : decode cX3_mixMachine 181 = .ok (.goto (-24), 3) := by decide +kernel
theorem dX3_mixMachine_184 : decode cX3_mixMachine 184 = .ok (.lload 4, 2) := by decide +kernel
theorem dX3_mixMachine_186 : decode cX3_mixMachine 186 = .ok (.lreturn, 1) := by decide +kernel
theorem dX3_mixQueue_0 : decode cX3_mixQueue 0 = .ok (.lload_n 0, 1) := by decide +kernel
theorem dX3_mixQueue_1 : decode cX3_mixQueue 1 = .ok (.aload_n 2, 1) := by decide +kernel
theorem dX3_mixQueue_2 : decode cX3_mixQueue 2 = .ok (.getfield 52, 3) := by decide +kernel
theorem dX3_mixQueue_5 : decode cX3_mixQueue 5 = .ok (.i2l, 1) := by decide +kernel
theorem dX3_mixQueue_6 : decode cX3_mixQueue 6 = .ok (.invokestatic 198, 3) := by decide +kernel
theorem dX3_mixQueue_9 : decode cX3_mixQueue 9 = .ok (.lstore_n 3, 1) := by decide +kernel
theorem dX3_mixQueue_10 : decode cX3_mixQueue 10 = .ok (.iconst 0, 1) := by decide +kernel
theorem dX3_mixQueue_11 : decode cX3_mixQueue 11 = .ok (.istore 5, 2) := by decide +kernel
theorem dX3_mixQueue_13 : decode cX3_mixQueue 13 = .ok (.iload 5, 2) := by decide +kernel
theorem dX3_mixQueue_15 : decode cX3_mixQueue 15 = .ok (.aload_n 2, 1) := by decide +kernel
theorem dX3_mixQueue_16 : decode cX3_mixQueue 16 = .ok (.getfield 52, 3) := by decide +kernel
theorem dX3_mixQueue_19 : decode cX3_mixQueue 19 = .ok (.if_icmp .ge 35, 3) := by decide +kernel
theorem dX3_mixQueue_22 : decode cX3_mixQueue 22 = .ok (.lload_n 3, 1) := by decide +kernel
theorem dX3_mixQueue_23 : decode cX3_mixQueue 23 = .ok (.aload_n 2, 1) := by decide +kernel
theorem dX3_mixQueue_24 : decode cX3_mixQueue 24 = .ok (.iload 5, 2) := by decide +kernel
theorem dX3_mixQueue_26 : decode cX3_mixQueue 26 = .ok (.iconst 3, 1) := by decide +kernel
theorem dX3_mixQueue_27 : decode cX3_mixQueue 27 = .ok (.invokevirtual 116, 3) := by decide +kernel
theorem dX3_mixQueue_30 : decode cX3_mixQueue 30 = .ok (.i2l, 1) := by decide +kernel
theorem dX3_mixQueue_31 : decode cX3_mixQueue 31 = .ok (.invokestatic 198, 3) := by decide +kernel
theorem dX3_mixQueue_34 : decode cX3_mixQueue 34 = .ok (.lstore_n 3, 1) := by decide +kernel
theorem dX3_mixQueue_35 : decode cX3_mixQueue 35 = .ok (.lload_n 3, 1) := by decide +kernel
theorem dX3_mixQueue_36 : decode cX3_mixQueue 36 = .ok (.aload_n 2, 1) := by decide +kernel
theorem dX3_mixQueue_37 : decode cX3_mixQueue 37 = .ok (.iload 5, 2) := by decide +kernel
theorem dX3_mixQueue_39 : decode cX3_mixQueue 39 = .ok (.iconst 4, 1) := by decide +kernel
theorem dX3_mixQueue_40 : decode cX3_mixQueue 40 = .ok (.invokevirtual 116, 3) := by decide +kernel
theorem dX3_mixQueue_43 : decode cX3_mixQueue 43 = .ok (.i2l, 1) := by decide +kernel
theorem dX3_mixQueue_44 : decode cX3_mixQueue 44 = .ok (.invokestatic 198, 3) := by decide +kernel
theorem dX3_mixQueue_47 : decode cX3_mixQueue 47 = .ok (.lstore_n 3, 1) := by decide +kernel
theorem dX3_mixQueue_48 : decode cX3_mixQueue 48 = .ok (.iinc 5 1, 3) := by decide +kernel
theorem dX3_mixQueue_51 : decode cX3_mixQueue 51 = .ok (.goto (-38), 3) := by decide +kernel
theorem dX3_mixQueue_54 : decode cX3_mixQueue 54 = .ok (.lload_n 3, 1) := by decide +kernel
theorem dX3_mixQueue_55 : decode cX3_mixQueue 55 = .ok (.lreturn, 1) := by decide +kernel
theorem dX3_mixEvidence_0 : decode cX3_mixEvidence 0 = .ok (.lload_n 0, 1) := by decide +kernel
theorem dX3_mixEvidence_1 : decode cX3_mixEvidence 1 = .ok (.aload_n 2, 1) := by decide +kernel
theorem dX3_mixEvidence_2 : decode cX3_mixEvidence 2 = .ok (.getfield 52, 3) := by decide +kernel
theorem dX3_mixEvidence_5 : decode cX3_mixEvidence 5 = .ok (.i2l, 1) := by decide +kernel
theorem dX3_mixEvidence_6 : decode cX3_mixEvidence 6 = .ok (.invokestatic 198, 3) := by decide +kernel
theorem dX3_mixEvidence_9 : decode cX3_mixEvidence 9 = .ok (.lstore_n 3, 1) := by decide +kernel
theorem dX3_mixEvidence_10 : decode cX3_mixEvidence 10 = .ok (.iconst 0, 1) := by decide +kernel
theorem dX3_mixEvidence_11 : decode cX3_mixEvidence 11 = .ok (.istore 5, 2) := by decide +kernel
theorem dX3_mixEvidence_13 : decode cX3_mixEvidence 13 = .ok (.iload 5, 2) := by decide +kernel
theorem dX3_mixEvidence_15 : decode cX3_mixEvidence 15 = .ok (.aload_n 2, 1) := by decide +kernel
theorem dX3_mixEvidence_16 : decode cX3_mixEvidence 16 = .ok (.getfield 52, 3) := by decide +kernel
theorem dX3_mixEvidence_19 : decode cX3_mixEvidence 19 = .ok (.if_icmp .ge 38, 3) := by decide +kernel
theorem dX3_mixEvidence_22 : decode cX3_mixEvidence 22 = .ok (.iconst 0, 1) := by decide +kernel
theorem dX3_mixEvidence_23 : decode cX3_mixEvidence 23 = .ok (.istore 6, 2) := by decide +kernel
theorem dX3_mixEvidence_25 : decode cX3_mixEvidence 25 = .ok (.iload 6, 2) := by decide +kernel
theorem dX3_mixEvidence_27 : decode cX3_mixEvidence 27 = .ok (.iconst 4, 1) := by decide +kernel
theorem dX3_mixEvidence_28 : decode cX3_mixEvidence 28 = .ok (.if_icmp .ge 23, 3) := by decide +kernel
theorem dX3_mixEvidence_31 : decode cX3_mixEvidence 31 = .ok (.lload_n 3, 1) := by decide +kernel
theorem dX3_mixEvidence_32 : decode cX3_mixEvidence 32 = .ok (.aload_n 2, 1) := by decide +kernel
theorem dX3_mixEvidence_33 : decode cX3_mixEvidence 33 = .ok (.iload 5, 2) := by decide +kernel
theorem dX3_mixEvidence_35 : decode cX3_mixEvidence 35 = .ok (.iload 6, 2) := by decide +kernel
theorem dX3_mixEvidence_37 : decode cX3_mixEvidence 37 = .ok (.invokevirtual 116, 3) := by decide +kernel
theorem dX3_mixEvidence_40 : decode cX3_mixEvidence 40 = .ok (.i2l, 1) := by decide +kernel
theorem dX3_mixEvidence_41 : decode cX3_mixEvidence 41 = .ok (.invokestatic 198, 3) := by decide +kernel
theorem dX3_mixEvidence_44 : decode cX3_mixEvidence 44 = .ok (.lstore_n 3, 1) := by decide +kernel
theorem dX3_mixEvidence_45 : decode cX3_mixEvidence 45 = .ok (.iinc 6 1, 3) := by decide +kernel
theorem dX3_mixEvidence_48 : decode cX3_mixEvidence 48 = .ok (.goto (-23), 3) := by decide +kernel
theorem dX3_mixEvidence_51 : decode cX3_mixEvidence 51 = .ok (.iinc 5 1, 3) := by decide +kernel
theorem dX3_mixEvidence_54 : decode cX3_mixEvidence 54 = .ok (.goto (-41), 3) := by decide +kernel
theorem dX3_mixEvidence_57 : decode cX3_mixEvidence 57 = .ok (.lload_n 3, 1) := by decide +kernel
theorem dX3_mixEvidence_58 : decode cX3_mixEvidence 58 = .ok (.lreturn, 1) := by decide +kernel
theorem dX3_nextState_0 : decode cX3_nextState 0 = .ok (.bipush 31, 2) := by decide +kernel
theorem dX3_nextState_2 : decode cX3_nextState 2 = .ok (.iload_n 0, 1) := by decide +kernel
theorem dX3_nextState_3 : decode cX3_nextState 3 = .ok (.imul, 1) := by decide +kernel
theorem dX3_nextState_4 : decode cX3_nextState 4 = .ok (.bipush 17, 2) := by decide +kernel
theorem dX3_nextState_6 : decode cX3_nextState 6 = .ok (.iload_n 2, 1) := by decide +kernel
theorem dX3_nextState_7 : decode cX3_nextState 7 = .ok (.imul, 1) := by decide +kernel
theorem dX3_nextState_8 : decode cX3_nextState 8 = .ok (.iadd, 1) := by decide +kernel
theorem dX3_nextState_9 : decode cX3_nextState 9 = .ok (.iload_n 1, 1) := by decide +kernel
theorem dX3_nextState_10 : decode cX3_nextState 10 = .ok (.iadd, 1) := by decide +kernel
theorem dX3_nextState_11 : decode cX3_nextState 11 = .ok (.iconst 2, 1) := by decide +kernel
theorem dX3_nextState_12 : decode cX3_nextState 12 = .ok (.iadd, 1) := by decide +kernel
theorem dX3_nextState_13 : decode cX3_nextState 13 = .ok (.sipush 9973, 3) := by decide +kernel
theorem dX3_nextState_16 : decode cX3_nextState 16 = .ok (.irem, 1) := by decide +kernel
theorem dX3_nextState_17 : decode cX3_nextState 17 = .ok (.ireturn, 1) := by decide +kernel
theorem dX3_hasOutput_0 : decode cX3_hasOutput 0 = .ok (.iload_n 0, 1) := by decide +kernel
theorem dX3_hasOutput_1 : decode cX3_hasOutput 1 = .ok (.iconst 3, 1) := by decide +kernel
theorem dX3_hasOutput_2 : decode cX3_hasOutput 2 = .ok (.irem, 1) := by decide +kernel
theorem dX3_hasOutput_3 : decode cX3_hasOutput 3 = .ok (.ifCond .ne 7, 3) := by decide +kernel
theorem dX3_hasOutput_6 : decode cX3_hasOutput 6 = .ok (.iconst 1, 1) := by decide +kernel
theorem dX3_hasOutput_7 : decode cX3_hasOutput 7 = .ok (.goto 4, 3) := by decide +kernel
theorem dX3_hasOutput_10 : decode cX3_hasOutput 10 = .ok (.iconst 0, 1) := by decide +kernel
theorem dX3_hasOutput_11 : decode cX3_hasOutput 11 = .ok (.ireturn, 1) := by decide +kernel
theorem dX3_outputValue_0 : decode cX3_outputValue 0 = .ok (.iload_n 0, 1) := by decide +kernel
theorem dX3_outputValue_1 : decode cX3_outputValue 1 = .ok (.sipush 1000, 3) := by decide +kernel
theorem dX3_outputValue_4 : decode cX3_outputValue 4 = .ok (.irem, 1) := by decide +kernel
theorem dX3_outputValue_5 : decode cX3_outputValue 5 = .ok (.ireturn, 1) := by decide +kernel
theorem dX3_outputPeer_0 : decode cX3_outputPeer 0 = .ok (.iload_n 2, 1) := by decide +kernel
theorem dX3_outputPeer_1 : decode cX3_outputPeer 1 = .ok (.iconst 1, 1) := by decide +kernel
theorem dX3_outputPeer_2 : decode cX3_outputPeer 2 = .ok (.isub, 1) := by decide +kernel
theorem dX3_outputPeer_3 : decode cX3_outputPeer 3 = .ok (.istore_n 3, 1) := by decide +kernel
theorem dX3_outputPeer_4 : decode cX3_outputPeer 4 = .ok (.iload_n 0, 1) := by decide +kernel
theorem dX3_outputPeer_5 : decode cX3_outputPeer 5 = .ok (.iconst 1, 1) := by decide +kernel
theorem dX3_outputPeer_6 : decode cX3_outputPeer 6 = .ok (.iadd, 1) := by decide +kernel
theorem dX3_outputPeer_7 : decode cX3_outputPeer 7 = .ok (.iload_n 3, 1) := by decide +kernel
theorem dX3_outputPeer_8 : decode cX3_outputPeer 8 = .ok (.ifCond .le 9, 3) := by decide +kernel
theorem dX3_outputPeer_11 : decode cX3_outputPeer 11 = .ok (.iload_n 1, 1) := by decide +kernel
theorem dX3_outputPeer_12 : decode cX3_outputPeer 12 = .ok (.iload_n 3, 1) := by decide +kernel
theorem dX3_outputPeer_13 : decode cX3_outputPeer 13 = .ok (.irem, 1) := by decide +kernel
theorem dX3_outputPeer_14 : decode cX3_outputPeer 14 = .ok (.goto 4, 3) := by decide +kernel
theorem dX3_outputPeer_17 : decode cX3_outputPeer 17 = .ok (.iconst 0, 1) := by decide +kernel
theorem dX3_outputPeer_18 : decode cX3_outputPeer 18 = .ok (.iadd, 1) := by decide +kernel
theorem dX3_outputPeer_19 : decode cX3_outputPeer 19 = .ok (.istore 4, 2) := by decide +kernel
theorem dX3_outputPeer_21 : decode cX3_outputPeer 21 = .ok (.iload 4, 2) := by decide +kernel
theorem dX3_outputPeer_23 : decode cX3_outputPeer 23 = .ok (.iload_n 2, 1) := by decide +kernel
theorem dX3_outputPeer_24 : decode cX3_outputPeer 24 = .ok (.if_icmp .lt 10, 3) := by decide +kernel
theorem dX3_outputPeer_27 : decode cX3_outputPeer 27 = .ok (.iload 4, 2) := by decide +kernel
theorem dX3_outputPeer_29 : decode cX3_outputPeer 29 = .ok (.iload_n 2, 1) := by decide +kernel
theorem dX3_outputPeer_30 : decode cX3_outputPeer 30 = .ok (.isub, 1) := by decide +kernel
theorem dX3_outputPeer_31 : decode cX3_outputPeer 31 = .ok (.goto 5, 3) := by decide +kernel
theorem dX3_outputPeer_34 : decode cX3_outputPeer 34 = .ok (.iload 4, 2) := by decide +kernel
theorem dX3_outputPeer_36 : decode cX3_outputPeer 36 = .ok (.ireturn, 1) := by decide +kernel
theorem dX3_nextChain_0 : decode cX3_nextChain 0 = .ok (.iload_n 0, 1) := by decide +kernel
theorem dX3_nextChain_1 : decode cX3_nextChain 1 = .ok (.i2l, 1) := by decide +kernel
theorem dX3_nextChain_2 : decode cX3_nextChain 2 = .ok (.ldc2_w 224, 3) := by decide +kernel
theorem dX3_nextChain_5 : decode cX3_nextChain 5 = .ok (.lmul, 1) := by decide +kernel
theorem dX3_nextChain_6 : decode cX3_nextChain 6 = .ok (.bipush 7, 2) := by decide +kernel
theorem dX3_nextChain_8 : decode cX3_nextChain 8 = .ok (.iload_n 1, 1) := by decide +kernel
theorem dX3_nextChain_9 : decode cX3_nextChain 9 = .ok (.imul, 1) := by decide +kernel
theorem dX3_nextChain_10 : decode cX3_nextChain 10 = .ok (.i2l, 1) := by decide +kernel
theorem dX3_nextChain_11 : decode cX3_nextChain 11 = .ok (.ladd, 1) := by decide +kernel
theorem dX3_nextChain_12 : decode cX3_nextChain 12 = .ok (.bipush 31, 2) := by decide +kernel
theorem dX3_nextChain_14 : decode cX3_nextChain 14 = .ok (.iload_n 2, 1) := by decide +kernel
theorem dX3_nextChain_15 : decode cX3_nextChain 15 = .ok (.iconst 1, 1) := by decide +kernel
theorem dX3_nextChain_16 : decode cX3_nextChain 16 = .ok (.iadd, 1) := by decide +kernel
theorem dX3_nextChain_17 : decode cX3_nextChain 17 = .ok (.imul, 1) := by decide +kernel
theorem dX3_nextChain_18 : decode cX3_nextChain 18 = .ok (.i2l, 1) := by decide +kernel
theorem dX3_nextChain_19 : decode cX3_nextChain 19 = .ok (.ladd, 1) := by decide +kernel
theorem dX3_nextChain_20 : decode cX3_nextChain 20 = .ok (.sipush 257, 3) := by decide +kernel
theorem dX3_nextChain_23 : decode cX3_nextChain 23 = .ok (.iload_n 3, 1) := by decide +kernel
theorem dX3_nextChain_24 : decode cX3_nextChain 24 = .ok (.imul, 1) := by decide +kernel
theorem dX3_nextChain_25 : decode cX3_nextChain 25 = .ok (.i2l, 1) := by decide +kernel
theorem dX3_nextChain_26 : decode cX3_nextChain 26 = .ok (.ladd, 1) := by decide +kernel
theorem dX3_nextChain_27 : decode cX3_nextChain 27 = .ok (.ldc2_w 226, 3) := by decide +kernel
theorem dX3_nextChain_30 : decode cX3_nextChain 30 = .ok (.lrem, 1) := by decide +kernel
theorem dX3_nextChain_31 : decode cX3_nextChain 31 = .ok (.l2i, 1) := by decide +kernel
theorem dX3_nextChain_32 : decode cX3_nextChain 32 = .ok (.ireturn, 1) := by decide +kernel
theorem dX3_othersOf_0 : decode cX3_othersOf 0 = .ok (.iconst 1, 1) := by decide +kernel
theorem dX3_othersOf_1 : decode cX3_othersOf 1 = .ok (.iload_n 1, 1) := by decide +kernel
theorem dX3_othersOf_2 : decode cX3_othersOf 2 = .ok (.ishl, 1) := by decide +kernel
theorem dX3_othersOf_3 : decode cX3_othersOf 3 = .ok (.iconst 1, 1) := by decide +kernel
theorem dX3_othersOf_4 : decode cX3_othersOf 4 = .ok (.isub, 1) := by decide +kernel
theorem dX3_othersOf_5 : decode cX3_othersOf 5 = .ok (.iconst 1, 1) := by decide +kernel
theorem dX3_othersOf_6 : decode cX3_othersOf 6 = .ok (.iload_n 0, 1) := by decide +kernel
theorem dX3_othersOf_7 : decode cX3_othersOf 7 = .ok (.ishl, 1) := by decide +kernel
theorem dX3_othersOf_8 : decode cX3_othersOf 8 = .ok (.iconst (-1), 1) := by decide +kernel
theorem dX3_othersOf_9 : decode cX3_othersOf 9 = .ok (.ixor, 1) := by decide +kernel
theorem dX3_othersOf_10 : decode cX3_othersOf 10 = .ok (.iand, 1) := by decide +kernel
theorem dX3_othersOf_11 : decode cX3_othersOf 11 = .ok (.ireturn, 1) := by decide +kernel
end
section
theorem dX4_init_0 : decode cX4_init 0 = .ok (.aload_n 0, 1) := by decide +kernel
theorem dX4_init_1 : decode cX4_init 1 = .ok (.invokespecial 1, 3) := by decide +kernel
theorem dX4_init_4 : decode cX4_init 4 = .ok (.aload_n 0, 1) := by decide +kernel
theorem dX4_init_5 : decode cX4_init 5 = .ok (.sipush 2921, 3) := by decide +kernel
theorem dX4_init_8 : decode cX4_init 8 = .ok (.newarray .int, 2) := by decide +kernel
theorem dX4_init_10 : decode cX4_init 10 = .ok (.putfield 7, 3) := by decide +kernel
theorem dX4_init_13 : decode cX4_init 13 = .ok (.aload_n 0, 1) := by decide +kernel
theorem dX4_init_14 : decode cX4_init 14 = .ok (.sipush 11684, 3) := by decide +kernel
theorem dX4_init_17 : decode cX4_init 17 = .ok (.newarray .int, 2) := by decide +kernel
theorem dX4_init_19 : decode cX4_init 19 = .ok (.putfield 13, 3) := by decide +kernel
theorem dX4_init_22 : decode cX4_init 22 = .ok (.aload_n 0, 1) := by decide +kernel
theorem dX4_init_23 : decode cX4_init 23 = .ok (.iconst 3, 1) := by decide +kernel
theorem dX4_init_24 : decode cX4_init 24 = .ok (.invokevirtual 16, 3) := by decide +kernel
theorem dX4_init_27 : decode cX4_init 27 = .ok (.return_, 1) := by decide +kernel
theorem dX4_thrown_0 : decode cX4_thrown 0 = .ok (.aload_n 0, 1) := by decide +kernel
theorem dX4_thrown_1 : decode cX4_thrown 1 = .ok (.getfield 20, 3) := by decide +kernel
theorem dX4_thrown_4 : decode cX4_thrown 4 = .ok (.ireturn, 1) := by decide +kernel
theorem dX4_refused_0 : decode cX4_refused 0 = .ok (.aload_n 0, 1) := by decide +kernel
theorem dX4_refused_1 : decode cX4_refused 1 = .ok (.iload_n 1, 1) := by decide +kernel
theorem dX4_refused_2 : decode cX4_refused 2 = .ok (.putfield 20, 3) := by decide +kernel
theorem dX4_refused_5 : decode cX4_refused 5 = .ok (.iload_n 1, 1) := by decide +kernel
theorem dX4_refused_6 : decode cX4_refused 6 = .ok (.ifCond .le 7, 3) := by decide +kernel
theorem dX4_refused_9 : decode cX4_refused 9 = .ok (.iconst 1, 1) := by decide +kernel
theorem dX4_refused_10 : decode cX4_refused 10 = .ok (.goto 4, 3) := by decide +kernel
theorem dX4_refused_13 : decode cX4_refused 13 = .ok (.iconst 0, 1) := by decide +kernel
theorem dX4_refused_14 : decode cX4_refused 14 = .ok (.ireturn, 1) := by decide +kernel
theorem dX4_within_0 : decode cX4_within 0 = .ok (.iload_n 0, 1) := by decide +kernel
theorem dX4_within_1 : decode cX4_within 1 = .ok (.iload_n 1, 1) := by decide +kernel
theorem dX4_within_2 : decode cX4_within 2 = .ok (.if_icmp .lt 12, 3) := by decide +kernel
theorem dX4_within_5 : decode cX4_within 5 = .ok (.iload_n 0, 1) := by decide +kernel
theorem dX4_within_6 : decode cX4_within 6 = .ok (.iload_n 2, 1) := by decide +kernel
theorem dX4_within_7 : decode cX4_within 7 = .ok (.if_icmp .gt 7, 3) := by decide +kernel
theorem dX4_within_10 : decode cX4_within 10 = .ok (.iconst 1, 1) := by decide +kernel
theorem dX4_within_11 : decode cX4_within 11 = .ok (.goto 4, 3) := by decide +kernel
theorem dX4_within_14 : decode cX4_within 14 = .ok (.iconst 0, 1) := by decide +kernel
theorem dX4_within_15 : decode cX4_within 15 = .ok (.ireturn, 1) := by decide +kernel
theorem dX4_many_0 : decode cX4_many 0 = .ok (.aload_n 0, 1) := by decide +kernel
theorem dX4_many_1 : decode cX4_many 1 = .ok (.getfield 7, 3) := by decide +kernel
theorem dX4_many_4 : decode cX4_many 4 = .ok (.iconst 0, 1) := by decide +kernel
theorem dX4_many_5 : decode cX4_many 5 = .ok (.iaload, 1) := by decide +kernel
theorem dX4_many_6 : decode cX4_many 6 = .ok (.ireturn, 1) := by decide +kernel
theorem dX4_isMachine_0 : decode cX4_isMachine 0 = .ok (.iload_n 1, 1) := by decide +kernel
theorem dX4_isMachine_1 : decode cX4_isMachine 1 = .ok (.iconst 0, 1) := by decide +kernel
theorem dX4_isMachine_2 : decode cX4_isMachine 2 = .ok (.aload_n 0, 1) := by decide +kernel
theorem dX4_isMachine_3 : decode cX4_isMachine 3 = .ok (.getfield 7, 3) := by decide +kernel
theorem dX4_isMachine_6 : decode cX4_isMachine 6 = .ok (.iconst 0, 1) := by decide +kernel
theorem dX4_isMachine_7 : decode cX4_isMachine 7 = .ok (.iaload, 1) := by decide +kernel
theorem dX4_isMachine_8 : decode cX4_isMachine 8 = .ok (.iconst 1, 1) := by decide +kernel
theorem dX4_isMachine_9 : decode cX4_isMachine 9 = .ok (.isub, 1) := by decide +kernel
theorem dX4_isMachine_10 : decode cX4_isMachine 10 = .ok (.invokestatic 24, 3) := by decide +kernel
theorem dX4_isMachine_13 : decode cX4_isMachine 13 = .ok (.ireturn, 1) := by decide +kernel
theorem dX4_at_0 : decode cX4_at 0 = .ok (.iconst 1, 1) := by decide +kernel
theorem dX4_at_1 : decode cX4_at 1 = .ok (.sipush 433, 3) := by decide +kernel
theorem dX4_at_4 : decode cX4_at 4 = .ok (.iload_n 0, 1) := by decide +kernel
theorem dX4_at_5 : decode cX4_at 5 = .ok (.imul, 1) := by decide +kernel
theorem dX4_at_6 : decode cX4_at 6 = .ok (.iadd, 1) := by decide +kernel
theorem dX4_at_7 : decode cX4_at 7 = .ok (.iload_n 1, 1) := by decide +kernel
theorem dX4_at_8 : decode cX4_at 8 = .ok (.iadd, 1) := by decide +kernel
theorem dX4_at_9 : decode cX4_at 9 = .ok (.ireturn, 1) := by decide +kernel
theorem dX4_get_0 : decode cX4_get 0 = .ok (.aload_n 0, 1) := by decide +kernel
theorem dX4_get_1 : decode cX4_get 1 = .ok (.getfield 7, 3) := by decide +kernel
theorem dX4_get_4 : decode cX4_get 4 = .ok (.iload_n 1, 1) := by decide +kernel
theorem dX4_get_5 : decode cX4_get 5 = .ok (.iload_n 2, 1) := by decide +kernel
theorem dX4_get_6 : decode cX4_get 6 = .ok (.invokestatic 28, 3) := by decide +kernel
theorem dX4_get_9 : decode cX4_get 9 = .ok (.iaload, 1) := by decide +kernel
theorem dX4_get_10 : decode cX4_get 10 = .ok (.ireturn, 1) := by decide +kernel
theorem dX4_begins_0 : decode cX4_begins 0 = .ok (.iconst 0, 1) := by decide +kernel
theorem dX4_begins_1 : decode cX4_begins 1 = .ok (.istore_n 2, 1) := by decide +kernel
theorem dX4_begins_2 : decode cX4_begins 2 = .ok (.iload_n 2, 1) := by decide +kernel
theorem dX4_begins_3 : decode cX4_begins 3 = .ok (.sipush 2921, 3) := by decide +kernel
theorem dX4_begins_6 : decode cX4_begins 6 = .ok (.if_icmp .ge 16, 3) := by decide +kernel
theorem dX4_begins_9 : decode cX4_begins 9 = .ok (.aload_n 0, 1) := by decide +kernel
theorem dX4_begins_10 : decode cX4_begins 10 = .ok (.getfield 7, 3) := by decide +kernel
theorem dX4_begins_13 : decode cX4_begins 13 = .ok (.iload_n 2, 1) := by decide +kernel
theorem dX4_begins_14 : decode cX4_begins 14 = .ok (.iconst 0, 1) := by decide +kernel
theorem dX4_begins_15 : decode cX4_begins 15 = .ok (.iastore, 1) := by decide +kernel
theorem dX4_begins_16 : decode cX4_begins 16 = .ok (.iinc 2 1, 3) := by decide +kernel
theorem dX4_begins_19 : decode cX4_begins 19 = .ok (.goto (-17), 3) := by decide +kernel
theorem dX4_begins_22 : decode cX4_begins 22 = .ok (.aload_n 0, 1) := by decide +kernel
theorem dX4_begins_23 : decode cX4_begins 23 = .ok (.getfield 7, 3) := by decide +kernel
theorem dX4_begins_26 : decode cX4_begins 26 = .ok (.iconst 0, 1) := by decide +kernel
theorem dX4_begins_27 : decode cX4_begins 27 = .ok (.iload_n 1, 1) := by decide +kernel
theorem dX4_begins_28 : decode cX4_begins 28 = .ok (.iastore, 1) := by decide +kernel
theorem dX4_begins_29 : decode cX4_begins 29 = .ok (.iconst 0, 1) := by decide +kernel
theorem dX4_begins_30 : decode cX4_begins 30 = .ok (.istore_n 2, 1) := by decide +kernel
theorem dX4_begins_31 : decode cX4_begins 31 = .ok (.iload_n 2, 1) := by decide +kernel
theorem dX4_begins_32 : decode cX4_begins 32 = .ok (.iload_n 1, 1) := by decide +kernel
theorem dX4_begins_33 : decode cX4_begins 33 = .ok (.if_icmp .ge 41, 3) := by decide +kernel
theorem dX4_begins_36 : decode cX4_begins 36 = .ok (.aload_n 0, 1) := by decide +kernel
theorem dX4_begins_37 : decode cX4_begins 37 = .ok (.getfield 7, 3) := by decide +kernel
theorem dX4_begins_40 : decode cX4_begins 40 = .ok (.iload_n 2, 1) := by decide +kernel
theorem dX4_begins_41 : decode cX4_begins 41 = .ok (.iconst 0, 1) := by decide +kernel
theorem dX4_begins_42 : decode cX4_begins 42 = .ok (.invokestatic 28, 3) := by decide +kernel
theorem dX4_begins_45 : decode cX4_begins 45 = .ok (.iload_n 2, 1) := by decide +kernel
theorem dX4_begins_46 : decode cX4_begins 46 = .ok (.iastore, 1) := by decide +kernel
theorem dX4_begins_47 : decode cX4_begins 47 = .ok (.aload_n 0, 1) := by decide +kernel
theorem dX4_begins_48 : decode cX4_begins 48 = .ok (.getfield 7, 3) := by decide +kernel
theorem dX4_begins_51 : decode cX4_begins 51 = .ok (.iload_n 2, 1) := by decide +kernel
theorem dX4_begins_52 : decode cX4_begins 52 = .ok (.iconst 3, 1) := by decide +kernel
theorem dX4_begins_53 : decode cX4_begins 53 = .ok (.invokestatic 28, 3) := by decide +kernel
theorem dX4_begins_56 : decode cX4_begins 56 = .ok (.iconst 1, 1) := by decide +kernel
theorem dX4_begins_57 : decode cX4_begins 57 = .ok (.iload_n 1, 1) := by decide +kernel
theorem dX4_begins_58 : decode cX4_begins 58 = .ok (.ishl, 1) := by decide +kernel
theorem dX4_begins_59 : decode cX4_begins 59 = .ok (.iconst 1, 1) := by decide +kernel
theorem dX4_begins_60 : decode cX4_begins 60 = .ok (.isub, 1) := by decide +kernel
theorem dX4_begins_61 : decode cX4_begins 61 = .ok (.iconst 1, 1) := by decide +kernel
theorem dX4_begins_62 : decode cX4_begins 62 = .ok (.iload_n 2, 1) := by decide +kernel
theorem dX4_begins_63 : decode cX4_begins 63 = .ok (.ishl, 1) := by decide +kernel
theorem dX4_begins_64 : decode cX4_begins 64 = .ok (.iconst (-1), 1) := by decide +kernel
theorem dX4_begins_65 : decode cX4_begins 65 = .ok (.ixor, 1) := by decide +kernel
theorem dX4_begins_66 : decode cX4_begins 66 = .ok (.iand, 1) := by decide +kernel
theorem dX4_begins_67 : decode cX4_begins 67 = .ok (.iastore, 1) := by decide +kernel
theorem dX4_begins_68 : decode cX4_begins 68 = .ok (.iinc 2 1, 3) := by decide +kernel
theorem dX4_begins_71 : decode cX4_begins 71 = .ok (.goto (-40), 3) := by decide +kernel
theorem dX4_begins_74 : decode cX4_begins 74 = .ok (.return_, 1) := by decide +kernel
theorem dX4_saves_0 : decode cX4_saves 0 = .ok (.aload_n 0, 1) := by decide +kernel
theorem dX4_saves_1 : decode cX4_saves 1 = .ok (.getfield 32, 3) := by decide +kernel
theorem dX4_saves_4 : decode cX4_saves 4 = .ok (.iconst 4, 1) := by decide +kernel
theorem dX4_saves_5 : decode cX4_saves 5 = .ok (.if_icmp .ne 44, 3) := by decide +kernel
theorem dX4_saves_8 : decode cX4_saves 8 = .ok (.iconst 0, 1) := by decide +kernel
theorem dX4_saves_9 : decode cX4_saves 9 = .ok (.istore_n 1, 1) := by decide +kernel
theorem dX4_saves_10 : decode cX4_saves 10 = .ok (.iload_n 1, 1) := by decide +kernel
theorem dX4_saves_11 : decode cX4_saves 11 = .ok (.sipush 8763, 3) := by decide +kernel
theorem dX4_saves_14 : decode cX4_saves 14 = .ok (.if_icmp .ge 25, 3) := by decide +kernel
theorem dX4_saves_17 : decode cX4_saves 17 = .ok (.aload_n 0, 1) := by decide +kernel
theorem dX4_saves_18 : decode cX4_saves 18 = .ok (.getfield 13, 3) := by decide +kernel
theorem dX4_saves_21 : decode cX4_saves 21 = .ok (.iload_n 1, 1) := by decide +kernel
theorem dX4_saves_22 : decode cX4_saves 22 = .ok (.aload_n 0, 1) := by decide +kernel
theorem dX4_saves_23 : decode cX4_saves 23 = .ok (.getfield 13, 3) := by decide +kernel
theorem dX4_saves_26 : decode cX4_saves 26 = .ok (.iload_n 1, 1) := by decide +kernel
theorem dX4_saves_27 : decode cX4_saves 27 = .ok (.sipush 2921, 3) := by decide +kernel
theorem dX4_saves_30 : decode cX4_saves 30 = .ok (.iadd, 1) := by decide +kernel
theorem dX4_saves_31 : decode cX4_saves 31 = .ok (.iaload, 1) := by decide +kernel
theorem dX4_saves_32 : decode cX4_saves 32 = .ok (.iastore, 1) := by decide +kernel
theorem dX4_saves_33 : decode cX4_saves 33 = .ok (.iinc 1 1, 3) := by decide +kernel
theorem dX4_saves_36 : decode cX4_saves 36 = .ok (.goto (-26), 3) := by decide +kernel
theorem dX4_saves_39 : decode cX4_saves 39 = .ok (.aload_n 0, 1) := by decide +kernel
theorem dX4_saves_40 : decode cX4_saves 40 = .ok (.dup, 1) := by decide +kernel
theorem dX4_saves_41 : decode cX4_saves 41 = .ok (.getfield 32, 3) := by decide +kernel
theorem dX4_saves_44 : decode cX4_saves 44 = .ok (.iconst 1, 1) := by decide +kernel
theorem dX4_saves_45 : decode cX4_saves 45 = .ok (.isub, 1) := by decide +kernel
theorem dX4_saves_46 : decode cX4_saves 46 = .ok (.putfield 32, 3) := by decide +kernel
theorem dX4_saves_49 : decode cX4_saves 49 = .ok (.iconst 0, 1) := by decide +kernel
theorem dX4_saves_50 : decode cX4_saves 50 = .ok (.istore_n 1, 1) := by decide +kernel
theorem dX4_saves_51 : decode cX4_saves 51 = .ok (.iload_n 1, 1) := by decide +kernel
theorem dX4_saves_52 : decode cX4_saves 52 = .ok (.sipush 2921, 3) := by decide +kernel
theorem dX4_saves_55 : decode cX4_saves 55 = .ok (.if_icmp .ge 30, 3) := by decide +kernel
theorem dX4_saves_58 : decode cX4_saves 58 = .ok (.aload_n 0, 1) := by decide +kernel
theorem dX4_saves_59 : decode cX4_saves 59 = .ok (.getfield 13, 3) := by decide +kernel
theorem dX4_saves_62 : decode cX4_saves 62 = .ok (.sipush 2921, 3) := by decide +kernel
theorem dX4_saves_65 : decode cX4_saves 65 = .ok (.aload_n 0, 1) := by decide +kernel
theorem dX4_saves_66 : decode cX4_saves 66 = .ok (.getfield 32, 3) := by decide +kernel
theorem dX4_saves_69 : decode cX4_saves 69 = .ok (.imul, 1) := by decide +kernel
theorem dX4_saves_70 : decode cX4_saves 70 = .ok (.iload_n 1, 1) := by decide +kernel
theorem dX4_saves_71 : decode cX4_saves 71 = .ok (.iadd, 1) := by decide +kernel
theorem dX4_saves_72 : decode cX4_saves 72 = .ok (.aload_n 0, 1) := by decide +kernel
theorem dX4_saves_73 : decode cX4_saves 73 = .ok (.getfield 7, 3) := by decide +kernel
theorem dX4_saves_76 : decode cX4_saves 76 = .ok (.iload_n 1, 1) := by decide +kernel
theorem dX4_saves_77 : decode cX4_saves 77 = .ok (.iaload, 1) := by decide +kernel
theorem dX4_saves_78 : decode cX4_saves 78 = .ok (.iastore, 1) := by decide +kernel
theorem dX4_saves_79 : decode cX4_saves 79 = .ok (.iinc 1 1, 3) := by decide +kernel
theorem dX4_saves_82 : decode cX4_saves 82 = .ok (.goto (-31), 3) := by decide +kernel
theorem dX4_saves_85 : decode cX4_saves 85 = .ok (.aload_n 0, 1) := by decide +kernel
theorem dX4_saves_86 : decode cX4_saves 86 = .ok (.dup, 1) := by decide +kernel
theorem dX4_saves_87 : decode cX4_saves 87 = .ok (.getfield 32, 3) := by decide +kernel
theorem dX4_saves_90 : decode cX4_saves 90 = .ok (.iconst 1, 1) := by decide +kernel
theorem dX4_saves_91 : decode cX4_saves 91 = .ok (.iadd, 1) := by decide +kernel
theorem dX4_saves_92 : decode cX4_saves 92 = .ok (.putfield 32, 3) := by decide +kernel
theorem dX4_saves_95 : decode cX4_saves 95 = .ok (.return_, 1) := by decide +kernel
theorem dX4_undo_0 : decode cX4_undo 0 = .ok (.aload_n 0, 1) := by decide +kernel
theorem dX4_undo_1 : decode cX4_undo 1 = .ok (.aload_n 0, 1) := by decide +kernel
theorem dX4_undo_2 : decode cX4_undo 2 = .ok (.getfield 32, 3) := by decide +kernel
theorem dX4_undo_5 : decode cX4_undo 5 = .ok (.ifCond .ne 7, 3) := by decide +kernel
theorem dX4_undo_8 : decode cX4_undo 8 = .ok (.iconst 1, 1) := by decide +kernel
theorem dX4_undo_9 : decode cX4_undo 9 = .ok (.goto 4, 3) := by decide +kernel
theorem dX4_undo_12 : decode cX4_undo 12 = .ok (.iconst 0, 1) := by decide +kernel
theorem dX4_undo_13 : decode cX4_undo 13 = .ok (.invokevirtual 35, 3) := by decide +kernel
theorem dX4_undo_16 : decode cX4_undo 16 = .ok (.ifCond .eq 5, 3) := by decide +kernel
theorem dX4_undo_19 : decode cX4_undo 19 = .ok (.iconst 0, 1) := by decide +kernel
theorem dX4_undo_20 : decode cX4_undo 20 = .ok (.ireturn, 1) := by decide +kernel
theorem dX4_undo_21 : decode cX4_undo 21 = .ok (.aload_n 0, 1) := by decide +kernel
theorem dX4_undo_22 : decode cX4_undo 22 = .ok (.dup, 1) := by decide +kernel
theorem dX4_undo_23 : decode cX4_undo 23 = .ok (.getfield 32, 3) := by decide +kernel
theorem dX4_undo_26 : decode cX4_undo 26 = .ok (.iconst 1, 1) := by decide +kernel
theorem dX4_undo_27 : decode cX4_undo 27 = .ok (.isub, 1) := by decide +kernel
theorem dX4_undo_28 : decode cX4_undo 28 = .ok (.putfield 32, 3) := by decide +kernel
theorem dX4_undo_31 : decode cX4_undo 31 = .ok (.iconst 0, 1) := by decide +kernel
theorem dX4_undo_32 : decode cX4_undo 32 = .ok (.istore_n 1, 1) := by decide +kernel
theorem dX4_undo_33 : decode cX4_undo 33 = .ok (.iload_n 1, 1) := by decide +kernel
theorem dX4_undo_34 : decode cX4_undo 34 = .ok (.sipush 2921, 3) := by decide +kernel
theorem dX4_undo_37 : decode cX4_undo 37 = .ok (.if_icmp .ge 30, 3) := by decide +kernel
theorem dX4_undo_40 : decode cX4_undo 40 = .ok (.aload_n 0, 1) := by decide +kernel
theorem dX4_undo_41 : decode cX4_undo 41 = .ok (.getfield 7, 3) := by decide +kernel
theorem dX4_undo_44 : decode cX4_undo 44 = .ok (.iload_n 1, 1) := by decide +kernel
theorem dX4_undo_45 : decode cX4_undo 45 = .ok (.aload_n 0, 1) := by decide +kernel
theorem dX4_undo_46 : decode cX4_undo 46 = .ok (.getfield 13, 3) := by decide +kernel
theorem dX4_undo_49 : decode cX4_undo 49 = .ok (.sipush 2921, 3) := by decide +kernel
theorem dX4_undo_52 : decode cX4_undo 52 = .ok (.aload_n 0, 1) := by decide +kernel
theorem dX4_undo_53 : decode cX4_undo 53 = .ok (.getfield 32, 3) := by decide +kernel
theorem dX4_undo_56 : decode cX4_undo 56 = .ok (.imul, 1) := by decide +kernel
theorem dX4_undo_57 : decode cX4_undo 57 = .ok (.iload_n 1, 1) := by decide +kernel
theorem dX4_undo_58 : decode cX4_undo 58 = .ok (.iadd, 1) := by decide +kernel
theorem dX4_undo_59 : decode cX4_undo 59 = .ok (.iaload, 1) := by decide +kernel
theorem dX4_undo_60 : decode cX4_undo 60 = .ok (.iastore, 1) := by decide +kernel
theorem dX4_undo_61 : decode cX4_undo 61 = .ok (.iinc 1 1, 3) := by decide +kernel
theorem dX4_undo_64 : decode cX4_undo 64 = .ok (.goto (-31), 3) := by decide +kernel
theorem dX4_undo_67 : decode cX4_undo 67 = .ok (.aload_n 0, 1) := by decide +kernel
theorem dX4_undo_68 : decode cX4_undo 68 = .ok (.getfield 32, 3) := by decide +kernel
theorem dX4_undo_71 : decode cX4_undo 71 = .ok (.ireturn, 1) := by decide +kernel
theorem dX4_entryOf_0 : decode cX4_entryOf 0 = .ok (.ldc 39, 2) := by decide +kernel
theorem dX4_entryOf_2 : decode cX4_entryOf 2 = .ok (.iload_n 0, 1) := by decide +kernel
theorem dX4_entryOf_3 : decode cX4_entryOf 3 = .ok (.imul, 1) := by decide +kernel
theorem dX4_entryOf_4 : decode cX4_entryOf 4 = .ok (.sipush 10000, 3) := by decide +kernel
theorem dX4_entryOf_7 : decode cX4_entryOf 7 = .ok (.iload_n 1, 1) := by decide +kernel
theorem dX4_entryOf_8 : decode cX4_entryOf 8 = .ok (.iconst 1, 1) := by decide +kernel
theorem dX4_entryOf_9 : decode cX4_entryOf 9 = .ok (.iadd, 1) := by decide +kernel
theorem dX4_entryOf_10 : decode cX4_entryOf 10 = .ok (.imul, 1) := by decide +kernel
theorem dX4_entryOf_11 : decode cX4_entryOf 11 = .ok (.iadd, 1) := by decide +kernel
theorem dX4_entryOf_12 : decode cX4_entryOf 12 = .ok (.iload_n 2, 1) := by decide +kernel
theorem dX4_entryOf_13 : decode cX4_entryOf 13 = .ok (.iadd, 1) := by decide +kernel
theorem dX4_entryOf_14 : decode cX4_entryOf 14 = .ok (.ireturn, 1) := by decide +kernel
theorem dX4_kindOf_0 : decode cX4_kindOf 0 = .ok (.iload_n 0, 1) := by decide +kernel
theorem dX4_kindOf_1 : decode cX4_kindOf 1 = .ok (.ldc 39, 2) := by decide +kernel
theorem dX4_kindOf_3 : decode cX4_kindOf 3 = .ok (.idiv, 1) := by decide +kernel
theorem dX4_kindOf_4 : decode cX4_kindOf 4 = .ok (.ireturn, 1) := by decide +kernel
theorem dX4_peerOf_0 : decode cX4_peerOf 0 = .ok (.iload_n 0, 1) := by decide +kernel
theorem dX4_peerOf_1 : decode cX4_peerOf 1 = .ok (.sipush 10000, 3) := by decide +kernel
theorem dX4_peerOf_4 : decode cX4_peerOf 4 = .ok (.idiv, 1) := by decide +kernel
theorem dX4_peerOf_5 : decode cX4_peerOf 5 = .ok (.bipush 10, 2) := by decide +kernel
theorem dX4_peerOf_7 : decode cX4_peerOf 7 = .ok (.irem, 1) := by decide +kernel
theorem dX4_peerOf_8 : decode cX4_peerOf 8 = .ok (.iconst 1, 1) := by decide +kernel
theorem dX4_peerOf_9 : decode cX4_peerOf 9 = .ok (.isub, 1) := by decide +kernel
theorem dX4_peerOf_10 : decode cX4_peerOf 10 = .ok (.ireturn, 1) := by decide +kernel
theorem dX4_valueOf_0 : decode cX4_valueOf 0 = .ok (.iload_n 0, 1) := by decide +kernel
theorem dX4_valueOf_1 : decode cX4_valueOf 1 = .ok (.sipush 10000, 3) := by decide +kernel
theorem dX4_valueOf_4 : decode cX4_valueOf 4 = .ok (.irem, 1) := by decide +kernel
theorem dX4_valueOf_5 : decode cX4_valueOf 5 = .ok (.ireturn, 1) := by decide +kernel
theorem dX4_entryAt_0 : decode cX4_entryAt 0 = .ok (.aload_n 0, 1) := by decide +kernel
theorem dX4_entryAt_1 : decode cX4_entryAt 1 = .ok (.iload_n 1, 1) := by decide +kernel
theorem dX4_entryAt_2 : decode cX4_entryAt 2 = .ok (.iconst 5, 1) := by decide +kernel
theorem dX4_entryAt_3 : decode cX4_entryAt 3 = .ok (.iload_n 2, 1) := by decide +kernel
theorem dX4_entryAt_4 : decode cX4_entryAt 4 = .ok (.iadd, 1) := by decide +kernel
theorem dX4_entryAt_5 : decode cX4_entryAt 5 = .ok (.invokevirtual 40, 3) := by decide +kernel
theorem dX4_entryAt_8 : decode cX4_entryAt 8 = .ok (.ireturn, 1) := by decide +kernel
theorem dX4_chainAt_0 : decode cX4_chainAt 0 = .ok (.lconst 1, 1) := by decide +kernel
theorem dX4_chainAt_1 : decode cX4_chainAt 1 = .ok (.lstore_n 3, 1) := by decide +kernel
theorem dX4_chainAt_2 : decode cX4_chainAt 2 = .ok (.iconst 0, 1) := by decide +kernel
theorem dX4_chainAt_3 : decode cX4_chainAt 3 = .ok (.istore 5, 2) := by decide +kernel
theorem dX4_chainAt_5 : decode cX4_chainAt 5 = .ok (.iload 5, 2) := by decide +kernel
theorem dX4_chainAt_7 : decode cX4_chainAt 7 = .ok (.iload_n 2, 1) := by decide +kernel
theorem dX4_chainAt_8 : decode cX4_chainAt 8 = .ok (.if_icmp .ge 63, 3) := by decide +kernel
theorem dX4_chainAt_11 : decode cX4_chainAt 11 = .ok (.aload_n 0, 1) := by decide +kernel
theorem dX4_chainAt_12 : decode cX4_chainAt 12 = .ok (.iload_n 1, 1) := by decide +kernel
theorem dX4_chainAt_13 : decode cX4_chainAt 13 = .ok (.iload 5, 2) := by decide +kernel
theorem dX4_chainAt_15 : decode cX4_chainAt 15 = .ok (.invokevirtual 43, 3) := by decide +kernel
theorem dX4_chainAt_18 : decode cX4_chainAt 18 = .ok (.istore 6, 2) := by decide +kernel
theorem dX4_chainAt_20 : decode cX4_chainAt 20 = .ok (.lload_n 3, 1) := by decide +kernel
theorem dX4_chainAt_21 : decode cX4_chainAt 21 = .ok (.ldc2_w 46, 3) := by decide +kernel
theorem dX4_chainAt_24 : decode cX4_chainAt 24 = .ok (.lmul, 1) := by decide +kernel
theorem dX4_chainAt_25 : decode cX4_chainAt 25 = .ok (.ldc2_w 48, 3) := by decide +kernel
theorem dX4_chainAt_28 : decode cX4_chainAt 28 = .ok (.iload 6, 2) := by decide +kernel
theorem dX4_chainAt_30 : decode cX4_chainAt 30 = .ok (.invokestatic 50, 3) := by decide +kernel
theorem dX4_chainAt_33 : decode cX4_chainAt 33 = .ok (.i2l, 1) := by decide +kernel
theorem dX4_chainAt_34 : decode cX4_chainAt 34 = .ok (.lmul, 1) := by decide +kernel
theorem dX4_chainAt_35 : decode cX4_chainAt 35 = .ok (.ladd, 1) := by decide +kernel
theorem dX4_chainAt_36 : decode cX4_chainAt 36 = .ok (.ldc2_w 54, 3) := by decide +kernel
theorem dX4_chainAt_39 : decode cX4_chainAt 39 = .ok (.iload 6, 2) := by decide +kernel
theorem dX4_chainAt_41 : decode cX4_chainAt 41 = .ok (.invokestatic 56, 3) := by decide +kernel
theorem dX4_chainAt_44 : decode cX4_chainAt 44 = .ok (.iconst 1, 1) := by decide +kernel
theorem dX4_chainAt_45 : decode cX4_chainAt 45 = .ok (.iadd, 1) := by decide +kernel
theorem dX4_chainAt_46 : decode cX4_chainAt 46 = .ok (.i2l, 1) := by decide +kernel
theorem dX4_chainAt_47 : decode cX4_chainAt 47 = .ok (.lmul, 1) := by decide +kernel
theorem dX4_chainAt_48 : decode cX4_chainAt 48 = .ok (.ladd, 1) := by decide +kernel
theorem dX4_chainAt_49 : decode cX4_chainAt 49 = .ok (.ldc2_w 59, 3) := by decide +kernel
theorem dX4_chainAt_52 : decode cX4_chainAt 52 = .ok (.iload 6, 2) := by decide +kernel
theorem dX4_chainAt_54 : decode cX4_chainAt 54 = .ok (.invokestatic 61, 3) := by decide +kernel
theorem dX4_chainAt_57 : decode cX4_chainAt 57 = .ok (.i2l, 1) := by decide +kernel
theorem dX4_chainAt_58 : decode cX4_chainAt 58 = .ok (.lmul, 1) := by decide +kernel
theorem dX4_chainAt_59 : decode cX4_chainAt 59 = .ok (.ladd, 1) := by decide +kernel
theorem dX4_chainAt_60 : decode cX4_chainAt 60 = .ok (.ldc2_w 64, 3) := by decide +kernel
theorem dX4_chainAt_63 : decode cX4_chainAt 63 = .ok (.lrem, 1) := by decide +kernel
theorem dX4_chainAt_64 : decode cX4_chainAt 64 = .ok (.lstore_n 3, 1) := by decide +kernel
theorem dX4_chainAt_65 : decode cX4_chainAt 65 = .ok (.iinc 5 1, 3) := by decide +kernel
theorem dX4_chainAt_68 : decode cX4_chainAt 68 = .ok (.goto (-63), 3) := by decide +kernel
theorem dX4_chainAt_71 : decode cX4_chainAt 71 = .ok (.lload_n 3, 1) := by decide +kernel
theorem dX4_chainAt_72 : decode cX4_chainAt 72 = .ok (.l2i, 1) := by decide +kernel
theorem dX4_chainAt_73 : decode cX4_chainAt 73 = .ok (.ireturn, 1) := by decide +kernel
theorem dX4_logs_0 : decode cX4_logs 0 = .ok (.aload_n 0, 1) := by decide +kernel
theorem dX4_logs_1 : decode cX4_logs 1 = .ok (.getfield 7, 3) := by decide +kernel
theorem dX4_logs_4 : decode cX4_logs 4 = .ok (.iload_n 1, 1) := by decide +kernel
theorem dX4_logs_5 : decode cX4_logs 5 = .ok (.iconst 5, 1) := by decide +kernel
theorem dX4_logs_6 : decode cX4_logs 6 = .ok (.aload_n 0, 1) := by decide +kernel
theorem dX4_logs_7 : decode cX4_logs 7 = .ok (.iload_n 1, 1) := by decide +kernel
theorem dX4_logs_8 : decode cX4_logs 8 = .ok (.iconst 4, 1) := by decide +kernel
theorem dX4_logs_9 : decode cX4_logs 9 = .ok (.invokevirtual 40, 3) := by decide +kernel
theorem dX4_logs_12 : decode cX4_logs 12 = .ok (.iadd, 1) := by decide +kernel
theorem dX4_logs_13 : decode cX4_logs 13 = .ok (.invokestatic 28, 3) := by decide +kernel
theorem dX4_logs_16 : decode cX4_logs 16 = .ok (.iload_n 2, 1) := by decide +kernel
theorem dX4_logs_17 : decode cX4_logs 17 = .ok (.iastore, 1) := by decide +kernel
theorem dX4_logs_18 : decode cX4_logs 18 = .ok (.aload_n 0, 1) := by decide +kernel
theorem dX4_logs_19 : decode cX4_logs 19 = .ok (.getfield 7, 3) := by decide +kernel
theorem dX4_logs_22 : decode cX4_logs 22 = .ok (.iload_n 1, 1) := by decide +kernel
theorem dX4_logs_23 : decode cX4_logs 23 = .ok (.iconst 4, 1) := by decide +kernel
theorem dX4_logs_24 : decode cX4_logs 24 = .ok (.invokestatic 28, 3) := by decide +kernel
theorem dX4_logs_27 : decode cX4_logs 27 = .ok (.dup2, 1) := by decide +kernel
theorem dX4_logs_28 : decode cX4_logs 28 = .ok (.iaload, 1) := by decide +kernel
theorem dX4_logs_29 : decode cX4_logs 29 = .ok (.iconst 1, 1) := by decide +kernel
theorem dX4_logs_30 : decode cX4_logs 30 = .ok (.iadd, 1) := by decide +kernel
theorem dX4_logs_31 : decode cX4_logs 31 = .ok (.iastore, 1) := by decide +kernel
theorem dX4_logs_32 : decode cX4_logs 32 = .ok (.return_, 1) := by decide +kernel
theorem dX4_comesToHold_0 : decode cX4_comesToHold 0 = .ok (.aload_n 0, 1) := by decide +kernel
theorem dX4_comesToHold_1 : decode cX4_comesToHold 1 = .ok (.iload_n 1, 1) := by decide +kernel
theorem dX4_comesToHold_2 : decode cX4_comesToHold 2 = .ok (.bipush 45, 2) := by decide +kernel
theorem dX4_comesToHold_4 : decode cX4_comesToHold 4 = .ok (.invokevirtual 40, 3) := by decide +kernel
theorem dX4_comesToHold_7 : decode cX4_comesToHold 7 = .ok (.bipush 60, 2) := by decide +kernel
theorem dX4_comesToHold_9 : decode cX4_comesToHold 9 = .ok (.if_icmp .ne 61, 3) := by decide +kernel
theorem dX4_comesToHold_12 : decode cX4_comesToHold 12 = .ok (.iconst 0, 1) := by decide +kernel
theorem dX4_comesToHold_13 : decode cX4_comesToHold 13 = .ok (.istore 5, 2) := by decide +kernel
theorem dX4_comesToHold_15 : decode cX4_comesToHold 15 = .ok (.iload 5, 2) := by decide +kernel
theorem dX4_comesToHold_17 : decode cX4_comesToHold 17 = .ok (.sipush 177, 3) := by decide +kernel
theorem dX4_comesToHold_20 : decode cX4_comesToHold 20 = .ok (.if_icmp .ge 35, 3) := by decide +kernel
theorem dX4_comesToHold_23 : decode cX4_comesToHold 23 = .ok (.aload_n 0, 1) := by decide +kernel
theorem dX4_comesToHold_24 : decode cX4_comesToHold 24 = .ok (.getfield 7, 3) := by decide +kernel
theorem dX4_comesToHold_27 : decode cX4_comesToHold 27 = .ok (.iload_n 1, 1) := by decide +kernel
theorem dX4_comesToHold_28 : decode cX4_comesToHold 28 = .ok (.bipush 46, 2) := by decide +kernel
theorem dX4_comesToHold_30 : decode cX4_comesToHold 30 = .ok (.iload 5, 2) := by decide +kernel
theorem dX4_comesToHold_32 : decode cX4_comesToHold 32 = .ok (.iadd, 1) := by decide +kernel
theorem dX4_comesToHold_33 : decode cX4_comesToHold 33 = .ok (.invokestatic 28, 3) := by decide +kernel
theorem dX4_comesToHold_36 : decode cX4_comesToHold 36 = .ok (.aload_n 0, 1) := by decide +kernel
theorem dX4_comesToHold_37 : decode cX4_comesToHold 37 = .ok (.iload_n 1, 1) := by decide +kernel
theorem dX4_comesToHold_38 : decode cX4_comesToHold 38 = .ok (.bipush 46, 2) := by decide +kernel
theorem dX4_comesToHold_40 : decode cX4_comesToHold 40 = .ok (.iload 5, 2) := by decide +kernel
theorem dX4_comesToHold_42 : decode cX4_comesToHold 42 = .ok (.iadd, 1) := by decide +kernel
theorem dX4_comesToHold_43 : decode cX4_comesToHold 43 = .ok (.iconst 3, 1) := by decide +kernel
theorem dX4_comesToHold_44 : decode cX4_comesToHold 44 = .ok (.iadd, 1) := by decide +kernel
theorem dX4_comesToHold_45 : decode cX4_comesToHold 45 = .ok (.invokevirtual 40, 3) := by decide +kernel
theorem dX4_comesToHold_48 : decode cX4_comesToHold 48 = .ok (.iastore, 1) := by decide +kernel
theorem dX4_comesToHold_49 : decode cX4_comesToHold 49 = .ok (.iinc 5 1, 3) := by decide +kernel
theorem dX4_comesToHold_52 : decode cX4_comesToHold 52 = .ok (.goto (-37), 3) := by decide +kernel
theorem dX4_comesToHold_55 : decode cX4_comesToHold 55 = .ok (.aload_n 0, 1) := by decide +kernel
theorem dX4_comesToHold_56 : decode cX4_comesToHold 56 = .ok (.getfield 7, 3) := by decide +kernel
theorem dX4_comesToHold_59 : decode cX4_comesToHold 59 = .ok (.iload_n 1, 1) := by decide +kernel
theorem dX4_comesToHold_60 : decode cX4_comesToHold 60 = .ok (.bipush 45, 2) := by decide +kernel
theorem dX4_comesToHold_62 : decode cX4_comesToHold 62 = .ok (.invokestatic 28, 3) := by decide +kernel
theorem dX4_comesToHold_65 : decode cX4_comesToHold 65 = .ok (.dup2, 1) := by decide +kernel
theorem dX4_comesToHold_66 : decode cX4_comesToHold 66 = .ok (.iaload, 1) := by decide +kernel
theorem dX4_comesToHold_67 : decode cX4_comesToHold 67 = .ok (.iconst 1, 1) := by decide +kernel
theorem dX4_comesToHold_68 : decode cX4_comesToHold 68 = .ok (.isub, 1) := by decide +kernel
theorem dX4_comesToHold_69 : decode cX4_comesToHold 69 = .ok (.iastore, 1) := by decide +kernel
theorem dX4_comesToHold_70 : decode cX4_comesToHold 70 = .ok (.iload_n 1, 1) := by decide +kernel
theorem dX4_comesToHold_71 : decode cX4_comesToHold 71 = .ok (.bipush 46, 2) := by decide +kernel
theorem dX4_comesToHold_73 : decode cX4_comesToHold 73 = .ok (.iconst 3, 1) := by decide +kernel
theorem dX4_comesToHold_74 : decode cX4_comesToHold 74 = .ok (.aload_n 0, 1) := by decide +kernel
theorem dX4_comesToHold_75 : decode cX4_comesToHold 75 = .ok (.iload_n 1, 1) := by decide +kernel
theorem dX4_comesToHold_76 : decode cX4_comesToHold 76 = .ok (.bipush 45, 2) := by decide +kernel
theorem dX4_comesToHold_78 : decode cX4_comesToHold 78 = .ok (.invokevirtual 40, 3) := by decide +kernel
theorem dX4_comesToHold_81 : decode cX4_comesToHold 81 = .ok (.imul, 1) := by decide +kernel
theorem dX4_comesToHold_82 : decode cX4_comesToHold 82 = .ok (.iadd, 1) := by decide +kernel
theorem dX4_comesToHold_83 : decode cX4_comesToHold 83 = .ok (.invokestatic 28, 3) := by decide +kernel
theorem dX4_comesToHold_86 : decode cX4_comesToHold 86 = .ok (.istore 5, 2) := by decide +kernel
theorem dX4_comesToHold_88 : decode cX4_comesToHold 88 = .ok (.aload_n 0, 1) := by decide +kernel
theorem dX4_comesToHold_89 : decode cX4_comesToHold 89 = .ok (.getfield 7, 3) := by decide +kernel
theorem dX4_comesToHold_92 : decode cX4_comesToHold 92 = .ok (.iload 5, 2) := by decide +kernel
theorem dX4_comesToHold_94 : decode cX4_comesToHold 94 = .ok (.iload_n 2, 1) := by decide +kernel
theorem dX4_comesToHold_95 : decode cX4_comesToHold 95 = .ok (.iastore, 1) := by decide +kernel
theorem dX4_comesToHold_96 : decode cX4_comesToHold 96 = .ok (.aload_n 0, 1) := by decide +kernel
theorem dX4_comesToHold_97 : decode cX4_comesToHold 97 = .ok (.getfield 7, 3) := by decide +kernel
theorem dX4_comesToHold_100 : decode cX4_comesToHold 100 = .ok (.iload 5, 2) := by decide +kernel
theorem dX4_comesToHold_102 : decode cX4_comesToHold 102 = .ok (.iconst 1, 1) := by decide +kernel
theorem dX4_comesToHold_103 : decode cX4_comesToHold 103 = .ok (.iadd, 1) := by decide +kernel
theorem dX4_comesToHold_104 : decode cX4_comesToHold 104 = .ok (.iload_n 3, 1) := by decide +kernel
theorem dX4_comesToHold_105 : decode cX4_comesToHold 105 = .ok (.iastore, 1) := by decide +kernel
theorem dX4_comesToHold_106 : decode cX4_comesToHold 106 = .ok (.aload_n 0, 1) := by decide +kernel
theorem dX4_comesToHold_107 : decode cX4_comesToHold 107 = .ok (.getfield 7, 3) := by decide +kernel
theorem dX4_comesToHold_110 : decode cX4_comesToHold 110 = .ok (.iload 5, 2) := by decide +kernel
theorem dX4_comesToHold_112 : decode cX4_comesToHold 112 = .ok (.iconst 2, 1) := by decide +kernel
theorem dX4_comesToHold_113 : decode cX4_comesToHold 113 = .ok (.iadd, 1) := by decide +kernel
theorem dX4_comesToHold_114 : decode cX4_comesToHold 114 = .ok (.iload 4, 2) := by decide +kernel
theorem dX4_comesToHold_116 : decode cX4_comesToHold 116 = .ok (.iastore, 1) := by decide +kernel
theorem dX4_comesToHold_117 : decode cX4_comesToHold 117 = .ok (.aload_n 0, 1) := by decide +kernel
theorem dX4_comesToHold_118 : decode cX4_comesToHold 118 = .ok (.getfield 7, 3) := by decide +kernel
theorem dX4_comesToHold_121 : decode cX4_comesToHold 121 = .ok (.iload_n 1, 1) := by decide +kernel
theorem dX4_comesToHold_122 : decode cX4_comesToHold 122 = .ok (.bipush 45, 2) := by decide +kernel
theorem dX4_comesToHold_124 : decode cX4_comesToHold 124 = .ok (.invokestatic 28, 3) := by decide +kernel
theorem dX4_comesToHold_127 : decode cX4_comesToHold 127 = .ok (.dup2, 1) := by decide +kernel
theorem dX4_comesToHold_128 : decode cX4_comesToHold 128 = .ok (.iaload, 1) := by decide +kernel
theorem dX4_comesToHold_129 : decode cX4_comesToHold 129 = .ok (.iconst 1, 1) := by decide +kernel
theorem dX4_comesToHold_130 : decode cX4_comesToHold 130 = .ok (.iadd, 1) := by decide +kernel
theorem dX4_comesToHold_131 : decode cX4_comesToHold 131 = .ok (.iastore, 1) := by decide +kernel
theorem dX4_comesToHold_132 : decode cX4_comesToHold 132 = .ok (.return_, 1) := by decide +kernel
theorem dX4_behind_0 : decode cX4_behind 0 = .ok (.bipush 31, 2) := by decide +kernel
theorem dX4_behind_2 : decode cX4_behind 2 = .ok (.iload_n 0, 1) := by decide +kernel
theorem dX4_behind_3 : decode cX4_behind 3 = .ok (.imul, 1) := by decide +kernel
theorem dX4_behind_4 : decode cX4_behind 4 = .ok (.bipush 17, 2) := by decide +kernel
theorem dX4_behind_6 : decode cX4_behind 6 = .ok (.iload_n 1, 1) := by decide +kernel
theorem dX4_behind_7 : decode cX4_behind 7 = .ok (.imul, 1) := by decide +kernel
theorem dX4_behind_8 : decode cX4_behind 8 = .ok (.iadd, 1) := by decide +kernel
theorem dX4_behind_9 : decode cX4_behind 9 = .ok (.iload_n 2, 1) := by decide +kernel
theorem dX4_behind_10 : decode cX4_behind 10 = .ok (.iadd, 1) := by decide +kernel
theorem dX4_behind_11 : decode cX4_behind 11 = .ok (.iconst 2, 1) := by decide +kernel
theorem dX4_behind_12 : decode cX4_behind 12 = .ok (.iadd, 1) := by decide +kernel
theorem dX4_behind_13 : decode cX4_behind 13 = .ok (.sipush 9973, 3) := by decide +kernel
theorem dX4_behind_16 : decode cX4_behind 16 = .ok (.irem, 1) := by decide +kernel
theorem dX4_behind_17 : decode cX4_behind 17 = .ok (.ireturn, 1) := by decide +kernel
theorem dX4_goesTo_0 : decode cX4_goesTo 0 = .ok (.iload_n 1, 1) := by decide +kernel
theorem dX4_goesTo_1 : decode cX4_goesTo 1 = .ok (.iconst 1, 1) := by decide +kernel
theorem dX4_goesTo_2 : decode cX4_goesTo 2 = .ok (.iadd, 1) := by decide +kernel
theorem dX4_goesTo_3 : decode cX4_goesTo 3 = .ok (.iload_n 2, 1) := by decide +kernel
theorem dX4_goesTo_4 : decode cX4_goesTo 4 = .ok (.aload_n 0, 1) := by decide +kernel
theorem dX4_goesTo_5 : decode cX4_goesTo 5 = .ok (.invokevirtual 66, 3) := by decide +kernel
theorem dX4_goesTo_8 : decode cX4_goesTo 8 = .ok (.iconst 1, 1) := by decide +kernel
theorem dX4_goesTo_9 : decode cX4_goesTo 9 = .ok (.isub, 1) := by decide +kernel
theorem dX4_goesTo_10 : decode cX4_goesTo 10 = .ok (.irem, 1) := by decide +kernel
theorem dX4_goesTo_11 : decode cX4_goesTo 11 = .ok (.iadd, 1) := by decide +kernel
theorem dX4_goesTo_12 : decode cX4_goesTo 12 = .ok (.aload_n 0, 1) := by decide +kernel
theorem dX4_goesTo_13 : decode cX4_goesTo 13 = .ok (.invokevirtual 66, 3) := by decide +kernel
theorem dX4_goesTo_16 : decode cX4_goesTo 16 = .ok (.irem, 1) := by decide +kernel
theorem dX4_goesTo_17 : decode cX4_goesTo 17 = .ok (.ireturn, 1) := by decide +kernel
theorem dX4_takes_0 : decode cX4_takes 0 = .ok (.aload_n 0, 1) := by decide +kernel
theorem dX4_takes_1 : decode cX4_takes 1 = .ok (.iload_n 1, 1) := by decide +kernel
theorem dX4_takes_2 : decode cX4_takes 2 = .ok (.iload_n 2, 1) := by decide +kernel
theorem dX4_takes_3 : decode cX4_takes 3 = .ok (.iload_n 3, 1) := by decide +kernel
theorem dX4_takes_4 : decode cX4_takes 4 = .ok (.iload 4, 2) := by decide +kernel
theorem dX4_takes_6 : decode cX4_takes 6 = .ok (.invokestatic 70, 3) := by decide +kernel
theorem dX4_takes_9 : decode cX4_takes 9 = .ok (.invokevirtual 74, 3) := by decide +kernel
theorem dX4_takes_12 : decode cX4_takes 12 = .ok (.aload_n 0, 1) := by decide +kernel
theorem dX4_takes_13 : decode cX4_takes 13 = .ok (.iload_n 1, 1) := by decide +kernel
theorem dX4_takes_14 : decode cX4_takes 14 = .ok (.iconst 0, 1) := by decide +kernel
theorem dX4_takes_15 : decode cX4_takes 15 = .ok (.invokevirtual 40, 3) := by decide +kernel
theorem dX4_takes_18 : decode cX4_takes 18 = .ok (.iload 4, 2) := by decide +kernel
theorem dX4_takes_20 : decode cX4_takes 20 = .ok (.iload_n 3, 1) := by decide +kernel
theorem dX4_takes_21 : decode cX4_takes 21 = .ok (.invokestatic 78, 3) := by decide +kernel
theorem dX4_takes_24 : decode cX4_takes 24 = .ok (.istore 5, 2) := by decide +kernel
theorem dX4_takes_26 : decode cX4_takes 26 = .ok (.aload_n 0, 1) := by decide +kernel
theorem dX4_takes_27 : decode cX4_takes 27 = .ok (.getfield 7, 3) := by decide +kernel
theorem dX4_takes_30 : decode cX4_takes 30 = .ok (.iload_n 1, 1) := by decide +kernel
theorem dX4_takes_31 : decode cX4_takes 31 = .ok (.iconst 0, 1) := by decide +kernel
theorem dX4_takes_32 : decode cX4_takes 32 = .ok (.invokestatic 28, 3) := by decide +kernel
theorem dX4_takes_35 : decode cX4_takes 35 = .ok (.iload 5, 2) := by decide +kernel
theorem dX4_takes_37 : decode cX4_takes 37 = .ok (.iastore, 1) := by decide +kernel
theorem dX4_takes_38 : decode cX4_takes 38 = .ok (.iload 5, 2) := by decide +kernel
theorem dX4_takes_40 : decode cX4_takes 40 = .ok (.iconst 3, 1) := by decide +kernel
theorem dX4_takes_41 : decode cX4_takes 41 = .ok (.irem, 1) := by decide +kernel
theorem dX4_takes_42 : decode cX4_takes 42 = .ok (.ifCond .eq 4, 3) := by decide +kernel
theorem dX4_takes_45 : decode cX4_takes 45 = .ok (.return_, 1) := by decide +kernel
theorem dX4_takes_46 : decode cX4_takes 46 = .ok (.iload 5, 2) := by decide +kernel
theorem dX4_takes_48 : decode cX4_takes 48 = .ok (.sipush 1000, 3) := by decide +kernel
theorem dX4_takes_51 : decode cX4_takes 51 = .ok (.irem, 1) := by decide +kernel
theorem dX4_takes_52 : decode cX4_takes 52 = .ok (.aload_n 0, 1) := by decide +kernel
theorem dX4_takes_53 : decode cX4_takes 53 = .ok (.iload_n 1, 1) := by decide +kernel
theorem dX4_takes_54 : decode cX4_takes 54 = .ok (.iconst 2, 1) := by decide +kernel
theorem dX4_takes_55 : decode cX4_takes 55 = .ok (.invokevirtual 40, 3) := by decide +kernel
theorem dX4_takes_58 : decode cX4_takes 58 = .ok (.iadd, 1) := by decide +kernel
theorem dX4_takes_59 : decode cX4_takes 59 = .ok (.sipush 1000, 3) := by decide +kernel
theorem dX4_takes_62 : decode cX4_takes 62 = .ok (.irem, 1) := by decide +kernel
theorem dX4_takes_63 : decode cX4_takes 63 = .ok (.istore 6, 2) := by decide +kernel
theorem dX4_takes_65 : decode cX4_takes 65 = .ok (.aload_n 0, 1) := by decide +kernel
theorem dX4_takes_66 : decode cX4_takes 66 = .ok (.getfield 7, 3) := by decide +kernel
theorem dX4_takes_69 : decode cX4_takes 69 = .ok (.iload_n 1, 1) := by decide +kernel
theorem dX4_takes_70 : decode cX4_takes 70 = .ok (.iconst 2, 1) := by decide +kernel
theorem dX4_takes_71 : decode cX4_takes 71 = .ok (.invokestatic 28, 3) := by decide +kernel
theorem dX4_takes_74 : decode cX4_takes 74 = .ok (.iconst 0, 1) := by decide +kernel
theorem dX4_takes_75 : decode cX4_takes 75 = .ok (.iastore, 1) := by decide +kernel
theorem dX4_takes_76 : decode cX4_takes 76 = .ok (.aload_n 0, 1) := by decide +kernel
theorem dX4_takes_77 : decode cX4_takes 77 = .ok (.iload_n 1, 1) := by decide +kernel
theorem dX4_takes_78 : decode cX4_takes 78 = .ok (.iload 5, 2) := by decide +kernel
theorem dX4_takes_80 : decode cX4_takes 80 = .ok (.invokevirtual 81, 3) := by decide +kernel
theorem dX4_takes_83 : decode cX4_takes 83 = .ok (.istore 7, 2) := by decide +kernel
theorem dX4_takes_85 : decode cX4_takes 85 = .ok (.aload_n 0, 1) := by decide +kernel
theorem dX4_takes_86 : decode cX4_takes 86 = .ok (.iload_n 1, 1) := by decide +kernel
theorem dX4_takes_87 : decode cX4_takes 87 = .ok (.iconst 2, 1) := by decide +kernel
theorem dX4_takes_88 : decode cX4_takes 88 = .ok (.iload 7, 2) := by decide +kernel
theorem dX4_takes_90 : decode cX4_takes 90 = .ok (.iload 6, 2) := by decide +kernel
theorem dX4_takes_92 : decode cX4_takes 92 = .ok (.invokestatic 70, 3) := by decide +kernel
theorem dX4_takes_95 : decode cX4_takes 95 = .ok (.invokevirtual 74, 3) := by decide +kernel
theorem dX4_takes_98 : decode cX4_takes 98 = .ok (.aload_n 0, 1) := by decide +kernel
theorem dX4_takes_99 : decode cX4_takes 99 = .ok (.iload_n 1, 1) := by decide +kernel
theorem dX4_takes_100 : decode cX4_takes 100 = .ok (.iconst 4, 1) := by decide +kernel
theorem dX4_takes_101 : decode cX4_takes 101 = .ok (.invokevirtual 40, 3) := by decide +kernel
theorem dX4_takes_104 : decode cX4_takes 104 = .ok (.iconst 1, 1) := by decide +kernel
theorem dX4_takes_105 : decode cX4_takes 105 = .ok (.isub, 1) := by decide +kernel
theorem dX4_takes_106 : decode cX4_takes 106 = .ok (.istore 8, 2) := by decide +kernel
theorem dX4_takes_108 : decode cX4_takes 108 = .ok (.aload_n 0, 1) := by decide +kernel
theorem dX4_takes_109 : decode cX4_takes 109 = .ok (.sipush 2600, 3) := by decide +kernel
theorem dX4_takes_112 : decode cX4_takes 112 = .ok (.iconst 5, 1) := by decide +kernel
theorem dX4_takes_113 : decode cX4_takes 113 = .ok (.aload_n 0, 1) := by decide +kernel
theorem dX4_takes_114 : decode cX4_takes 114 = .ok (.getfield 7, 3) := by decide +kernel
theorem dX4_takes_117 : decode cX4_takes 117 = .ok (.sipush 2599, 3) := by decide +kernel
theorem dX4_takes_120 : decode cX4_takes 120 = .ok (.iaload, 1) := by decide +kernel
theorem dX4_takes_121 : decode cX4_takes 121 = .ok (.imul, 1) := by decide +kernel
theorem dX4_takes_122 : decode cX4_takes 122 = .ok (.iadd, 1) := by decide +kernel
theorem dX4_takes_123 : decode cX4_takes 123 = .ok (.iload 7, 2) := by decide +kernel
theorem dX4_takes_125 : decode cX4_takes 125 = .ok (.iload_n 1, 1) := by decide +kernel
theorem dX4_takes_126 : decode cX4_takes 126 = .ok (.iload 6, 2) := by decide +kernel
theorem dX4_takes_128 : decode cX4_takes 128 = .ok (.iload 8, 2) := by decide +kernel
theorem dX4_takes_130 : decode cX4_takes 130 = .ok (.aload_n 0, 1) := by decide +kernel
theorem dX4_takes_131 : decode cX4_takes 131 = .ok (.iload_n 1, 1) := by decide +kernel
theorem dX4_takes_132 : decode cX4_takes 132 = .ok (.iload 8, 2) := by decide +kernel
theorem dX4_takes_134 : decode cX4_takes 134 = .ok (.iconst 1, 1) := by decide +kernel
theorem dX4_takes_135 : decode cX4_takes 135 = .ok (.iadd, 1) := by decide +kernel
theorem dX4_takes_136 : decode cX4_takes 136 = .ok (.invokevirtual 84, 3) := by decide +kernel
theorem dX4_takes_139 : decode cX4_takes 139 = .ok (.invokevirtual 87, 3) := by decide +kernel
theorem dX4_takes_142 : decode cX4_takes 142 = .ok (.aload_n 0, 1) := by decide +kernel
theorem dX4_takes_143 : decode cX4_takes 143 = .ok (.getfield 7, 3) := by decide +kernel
theorem dX4_takes_146 : decode cX4_takes 146 = .ok (.sipush 2599, 3) := by decide +kernel
theorem dX4_takes_149 : decode cX4_takes 149 = .ok (.dup2, 1) := by decide +kernel
theorem dX4_takes_150 : decode cX4_takes 150 = .ok (.iaload, 1) := by decide +kernel
theorem dX4_takes_151 : decode cX4_takes 151 = .ok (.iconst 1, 1) := by decide +kernel
theorem dX4_takes_152 : decode cX4_takes 152 = .ok (.iadd, 1) := by decide +kernel
theorem dX4_takes_153 : decode cX4_takes 153 = .ok (.iastore, 1) := by decide +kernel
theorem dX4_takes_154 : decode cX4_takes 154 = .ok (.return_, 1) := by decide +kernel
theorem dX4_puts_0 : decode cX4_puts 0 = .ok (.aload_n 0, 1) := by decide +kernel
theorem dX4_puts_1 : decode cX4_puts 1 = .ok (.getfield 7, 3) := by decide +kernel
theorem dX4_puts_4 : decode cX4_puts 4 = .ok (.iload_n 1, 1) := by decide +kernel
theorem dX4_puts_5 : decode cX4_puts 5 = .ok (.iload_n 2, 1) := by decide +kernel
theorem dX4_puts_6 : decode cX4_puts 6 = .ok (.iastore, 1) := by decide +kernel
theorem dX4_puts_7 : decode cX4_puts 7 = .ok (.aload_n 0, 1) := by decide +kernel
theorem dX4_puts_8 : decode cX4_puts 8 = .ok (.getfield 7, 3) := by decide +kernel
theorem dX4_puts_11 : decode cX4_puts 11 = .ok (.iload_n 1, 1) := by decide +kernel
theorem dX4_puts_12 : decode cX4_puts 12 = .ok (.iconst 1, 1) := by decide +kernel
theorem dX4_puts_13 : decode cX4_puts 13 = .ok (.iadd, 1) := by decide +kernel
theorem dX4_puts_14 : decode cX4_puts 14 = .ok (.iload_n 3, 1) := by decide +kernel
theorem dX4_puts_15 : decode cX4_puts 15 = .ok (.iastore, 1) := by decide +kernel
theorem dX4_puts_16 : decode cX4_puts 16 = .ok (.aload_n 0, 1) := by decide +kernel
theorem dX4_puts_17 : decode cX4_puts 17 = .ok (.getfield 7, 3) := by decide +kernel
theorem dX4_puts_20 : decode cX4_puts 20 = .ok (.iload_n 1, 1) := by decide +kernel
theorem dX4_puts_21 : decode cX4_puts 21 = .ok (.iconst 2, 1) := by decide +kernel
theorem dX4_puts_22 : decode cX4_puts 22 = .ok (.iadd, 1) := by decide +kernel
theorem dX4_puts_23 : decode cX4_puts 23 = .ok (.iload 4, 2) := by decide +kernel
theorem dX4_puts_25 : decode cX4_puts 25 = .ok (.iastore, 1) := by decide +kernel
theorem dX4_puts_26 : decode cX4_puts 26 = .ok (.aload_n 0, 1) := by decide +kernel
theorem dX4_puts_27 : decode cX4_puts 27 = .ok (.getfield 7, 3) := by decide +kernel
theorem dX4_puts_30 : decode cX4_puts 30 = .ok (.iload_n 1, 1) := by decide +kernel
theorem dX4_puts_31 : decode cX4_puts 31 = .ok (.iconst 3, 1) := by decide +kernel
theorem dX4_puts_32 : decode cX4_puts 32 = .ok (.iadd, 1) := by decide +kernel
theorem dX4_puts_33 : decode cX4_puts 33 = .ok (.iload 5, 2) := by decide +kernel
theorem dX4_puts_35 : decode cX4_puts 35 = .ok (.iastore, 1) := by decide +kernel
theorem dX4_puts_36 : decode cX4_puts 36 = .ok (.aload_n 0, 1) := by decide +kernel
theorem dX4_puts_37 : decode cX4_puts 37 = .ok (.getfield 7, 3) := by decide +kernel
theorem dX4_puts_40 : decode cX4_puts 40 = .ok (.iload_n 1, 1) := by decide +kernel
theorem dX4_puts_41 : decode cX4_puts 41 = .ok (.iconst 4, 1) := by decide +kernel
theorem dX4_puts_42 : decode cX4_puts 42 = .ok (.iadd, 1) := by decide +kernel
theorem dX4_puts_43 : decode cX4_puts 43 = .ok (.iload 6, 2) := by decide +kernel
theorem dX4_puts_45 : decode cX4_puts 45 = .ok (.iastore, 1) := by decide +kernel
theorem dX4_puts_46 : decode cX4_puts 46 = .ok (.return_, 1) := by decide +kernel
theorem dX4_hasRoom_0 : decode cX4_hasRoom 0 = .ok (.aload_n 0, 1) := by decide +kernel
theorem dX4_hasRoom_1 : decode cX4_hasRoom 1 = .ok (.iload_n 1, 1) := by decide +kernel
theorem dX4_hasRoom_2 : decode cX4_hasRoom 2 = .ok (.iconst 4, 1) := by decide +kernel
theorem dX4_hasRoom_3 : decode cX4_hasRoom 3 = .ok (.invokevirtual 40, 3) := by decide +kernel
theorem dX4_hasRoom_6 : decode cX4_hasRoom 6 = .ok (.bipush 38, 2) := by decide +kernel
theorem dX4_hasRoom_8 : decode cX4_hasRoom 8 = .ok (.if_icmp .gt 7, 3) := by decide +kernel
theorem dX4_hasRoom_11 : decode cX4_hasRoom 11 = .ok (.iconst 1, 1) := by decide +kernel
theorem dX4_hasRoom_12 : decode cX4_hasRoom 12 = .ok (.goto 4, 3) := by decide +kernel
theorem dX4_hasRoom_15 : decode cX4_hasRoom 15 = .ok (.iconst 0, 1) := by decide +kernel
theorem dX4_hasRoom_16 : decode cX4_hasRoom 16 = .ok (.ireturn, 1) := by decide +kernel
theorem dX4_isBarred_0 : decode cX4_isBarred 0 = .ok (.aload_n 0, 1) := by decide +kernel
theorem dX4_isBarred_1 : decode cX4_isBarred 1 = .ok (.getfield 7, 3) := by decide +kernel
theorem dX4_isBarred_4 : decode cX4_isBarred 4 = .ok (.sipush 2600, 3) := by decide +kernel
theorem dX4_isBarred_7 : decode cX4_isBarred 7 = .ok (.iaload, 1) := by decide +kernel
theorem dX4_isBarred_8 : decode cX4_isBarred 8 = .ok (.istore_n 1, 1) := by decide +kernel
theorem dX4_isBarred_9 : decode cX4_isBarred 9 = .ok (.aload_n 0, 1) := by decide +kernel
theorem dX4_isBarred_10 : decode cX4_isBarred 10 = .ok (.getfield 7, 3) := by decide +kernel
theorem dX4_isBarred_13 : decode cX4_isBarred 13 = .ok (.sipush 2599, 3) := by decide +kernel
theorem dX4_isBarred_16 : decode cX4_isBarred 16 = .ok (.iaload, 1) := by decide +kernel
theorem dX4_isBarred_17 : decode cX4_isBarred 17 = .ok (.ifCond .le 24, 3) := by decide +kernel
theorem dX4_isBarred_20 : decode cX4_isBarred 20 = .ok (.aload_n 0, 1) := by decide +kernel
theorem dX4_isBarred_21 : decode cX4_isBarred 21 = .ok (.iload_n 1, 1) := by decide +kernel
theorem dX4_isBarred_22 : decode cX4_isBarred 22 = .ok (.iconst 1, 1) := by decide +kernel
theorem dX4_isBarred_23 : decode cX4_isBarred 23 = .ok (.invokevirtual 40, 3) := by decide +kernel
theorem dX4_isBarred_26 : decode cX4_isBarred 26 = .ok (.ifCond .ne 15, 3) := by decide +kernel
theorem dX4_isBarred_29 : decode cX4_isBarred 29 = .ok (.aload_n 0, 1) := by decide +kernel
theorem dX4_isBarred_30 : decode cX4_isBarred 30 = .ok (.iload_n 1, 1) := by decide +kernel
theorem dX4_isBarred_31 : decode cX4_isBarred 31 = .ok (.invokevirtual 91, 3) := by decide +kernel
theorem dX4_isBarred_34 : decode cX4_isBarred 34 = .ok (.ifCond .ne 7, 3) := by decide +kernel
theorem dX4_isBarred_37 : decode cX4_isBarred 37 = .ok (.iconst 1, 1) := by decide +kernel
theorem dX4_isBarred_38 : decode cX4_isBarred 38 = .ok (.goto 4, 3) := by decide +kernel
theorem dX4_isBarred_41 : decode cX4_isBarred 41 = .ok (.iconst 0, 1) := by decide +kernel
theorem dX4_isBarred_42 : decode cX4_isBarred 42 = .ok (.ireturn, 1) := by decide +kernel
theorem dX4_delivers_0 : decode cX4_delivers 0 = .ok (.aload_n 0, 1) := by decide +kernel
theorem dX4_delivers_1 : decode cX4_delivers 1 = .ok (.getfield 7, 3) := by decide +kernel
theorem dX4_delivers_4 : decode cX4_delivers 4 = .ok (.sipush 2600, 3) := by decide +kernel
theorem dX4_delivers_7 : decode cX4_delivers 7 = .ok (.iaload, 1) := by decide +kernel
theorem dX4_delivers_8 : decode cX4_delivers 8 = .ok (.istore_n 1, 1) := by decide +kernel
theorem dX4_delivers_9 : decode cX4_delivers 9 = .ok (.aload_n 0, 1) := by decide +kernel
theorem dX4_delivers_10 : decode cX4_delivers 10 = .ok (.getfield 7, 3) := by decide +kernel
theorem dX4_delivers_13 : decode cX4_delivers 13 = .ok (.sipush 2601, 3) := by decide +kernel
theorem dX4_delivers_16 : decode cX4_delivers 16 = .ok (.iaload, 1) := by decide +kernel
theorem dX4_delivers_17 : decode cX4_delivers 17 = .ok (.istore_n 2, 1) := by decide +kernel
theorem dX4_delivers_18 : decode cX4_delivers 18 = .ok (.aload_n 0, 1) := by decide +kernel
theorem dX4_delivers_19 : decode cX4_delivers 19 = .ok (.getfield 7, 3) := by decide +kernel
theorem dX4_delivers_22 : decode cX4_delivers 22 = .ok (.sipush 2602, 3) := by decide +kernel
theorem dX4_delivers_25 : decode cX4_delivers 25 = .ok (.iaload, 1) := by decide +kernel
theorem dX4_delivers_26 : decode cX4_delivers 26 = .ok (.istore_n 3, 1) := by decide +kernel
theorem dX4_delivers_27 : decode cX4_delivers 27 = .ok (.aload_n 0, 1) := by decide +kernel
theorem dX4_delivers_28 : decode cX4_delivers 28 = .ok (.getfield 7, 3) := by decide +kernel
theorem dX4_delivers_31 : decode cX4_delivers 31 = .ok (.sipush 2603, 3) := by decide +kernel
theorem dX4_delivers_34 : decode cX4_delivers 34 = .ok (.iaload, 1) := by decide +kernel
theorem dX4_delivers_35 : decode cX4_delivers 35 = .ok (.istore 4, 2) := by decide +kernel
theorem dX4_delivers_37 : decode cX4_delivers 37 = .ok (.aload_n 0, 1) := by decide +kernel
theorem dX4_delivers_38 : decode cX4_delivers 38 = .ok (.getfield 7, 3) := by decide +kernel
theorem dX4_delivers_41 : decode cX4_delivers 41 = .ok (.sipush 2604, 3) := by decide +kernel
theorem dX4_delivers_44 : decode cX4_delivers 44 = .ok (.iaload, 1) := by decide +kernel
theorem dX4_delivers_45 : decode cX4_delivers 45 = .ok (.istore 5, 2) := by decide +kernel
theorem dX4_delivers_47 : decode cX4_delivers 47 = .ok (.aload_n 0, 1) := by decide +kernel
theorem dX4_delivers_48 : decode cX4_delivers 48 = .ok (.getfield 7, 3) := by decide +kernel
theorem dX4_delivers_51 : decode cX4_delivers 51 = .ok (.sipush 2599, 3) := by decide +kernel
theorem dX4_delivers_54 : decode cX4_delivers 54 = .ok (.dup2, 1) := by decide +kernel
theorem dX4_delivers_55 : decode cX4_delivers 55 = .ok (.iaload, 1) := by decide +kernel
theorem dX4_delivers_56 : decode cX4_delivers 56 = .ok (.iconst 1, 1) := by decide +kernel
theorem dX4_delivers_57 : decode cX4_delivers 57 = .ok (.isub, 1) := by decide +kernel
theorem dX4_delivers_58 : decode cX4_delivers 58 = .ok (.iastore, 1) := by decide +kernel
theorem dX4_delivers_59 : decode cX4_delivers 59 = .ok (.iconst 0, 1) := by decide +kernel
theorem dX4_delivers_60 : decode cX4_delivers 60 = .ok (.istore 6, 2) := by decide +kernel
theorem dX4_delivers_62 : decode cX4_delivers 62 = .ok (.iload 6, 2) := by decide +kernel
theorem dX4_delivers_64 : decode cX4_delivers 64 = .ok (.iconst 5, 1) := by decide +kernel
theorem dX4_delivers_65 : decode cX4_delivers 65 = .ok (.aload_n 0, 1) := by decide +kernel
theorem dX4_delivers_66 : decode cX4_delivers 66 = .ok (.getfield 7, 3) := by decide +kernel
theorem dX4_delivers_69 : decode cX4_delivers 69 = .ok (.sipush 2599, 3) := by decide +kernel
theorem dX4_delivers_72 : decode cX4_delivers 72 = .ok (.iaload, 1) := by decide +kernel
theorem dX4_delivers_73 : decode cX4_delivers 73 = .ok (.imul, 1) := by decide +kernel
theorem dX4_delivers_74 : decode cX4_delivers 74 = .ok (.if_icmp .ge 33, 3) := by decide +kernel
theorem dX4_delivers_77 : decode cX4_delivers 77 = .ok (.aload_n 0, 1) := by decide +kernel
theorem dX4_delivers_78 : decode cX4_delivers 78 = .ok (.getfield 7, 3) := by decide +kernel
theorem dX4_delivers_81 : decode cX4_delivers 81 = .ok (.sipush 2600, 3) := by decide +kernel
theorem dX4_delivers_84 : decode cX4_delivers 84 = .ok (.iload 6, 2) := by decide +kernel
theorem dX4_delivers_86 : decode cX4_delivers 86 = .ok (.iadd, 1) := by decide +kernel
theorem dX4_delivers_87 : decode cX4_delivers 87 = .ok (.aload_n 0, 1) := by decide +kernel
theorem dX4_delivers_88 : decode cX4_delivers 88 = .ok (.getfield 7, 3) := by decide +kernel
theorem dX4_delivers_91 : decode cX4_delivers 91 = .ok (.sipush 2600, 3) := by decide +kernel
theorem dX4_delivers_94 : decode cX4_delivers 94 = .ok (.iload 6, 2) := by decide +kernel
theorem dX4_delivers_96 : decode cX4_delivers 96 = .ok (.iadd, 1) := by decide +kernel
theorem dX4_delivers_97 : decode cX4_delivers 97 = .ok (.iconst 5, 1) := by decide +kernel
theorem dX4_delivers_98 : decode cX4_delivers 98 = .ok (.iadd, 1) := by decide +kernel
theorem dX4_delivers_99 : decode cX4_delivers 99 = .ok (.iaload, 1) := by decide +kernel
theorem dX4_delivers_100 : decode cX4_delivers 100 = .ok (.iastore, 1) := by decide +kernel
theorem dX4_delivers_101 : decode cX4_delivers 101 = .ok (.iinc 6 1, 3) := by decide +kernel
theorem dX4_delivers_104 : decode cX4_delivers 104 = .ok (.goto (-42), 3) := by decide +kernel
theorem dX4_delivers_107 : decode cX4_delivers 107 = .ok (.aload_n 0, 1) := by decide +kernel
theorem dX4_delivers_108 : decode cX4_delivers 108 = .ok (.iload_n 1, 1) := by decide +kernel
theorem dX4_delivers_109 : decode cX4_delivers 109 = .ok (.iconst 1, 1) := by decide +kernel
theorem dX4_delivers_110 : decode cX4_delivers 110 = .ok (.invokevirtual 40, 3) := by decide +kernel
theorem dX4_delivers_113 : decode cX4_delivers 113 = .ok (.iconst 1, 1) := by decide +kernel
theorem dX4_delivers_114 : decode cX4_delivers 114 = .ok (.if_icmp .ne 62, 3) := by decide +kernel
theorem dX4_delivers_117 : decode cX4_delivers 117 = .ok (.aload_n 0, 1) := by decide +kernel
theorem dX4_delivers_118 : decode cX4_delivers 118 = .ok (.iload_n 1, 1) := by decide +kernel
theorem dX4_delivers_119 : decode cX4_delivers 119 = .ok (.sipush 226, 3) := by decide +kernel
theorem dX4_delivers_122 : decode cX4_delivers 122 = .ok (.invokevirtual 40, 3) := by decide +kernel
theorem dX4_delivers_125 : decode cX4_delivers 125 = .ok (.bipush 40, 2) := by decide +kernel
theorem dX4_delivers_127 : decode cX4_delivers 127 = .ok (.if_icmp .ge 48, 3) := by decide +kernel
theorem dX4_delivers_130 : decode cX4_delivers 130 = .ok (.aload_n 0, 1) := by decide +kernel
theorem dX4_delivers_131 : decode cX4_delivers 131 = .ok (.iload_n 1, 1) := by decide +kernel
theorem dX4_delivers_132 : decode cX4_delivers 132 = .ok (.sipush 227, 3) := by decide +kernel
theorem dX4_delivers_135 : decode cX4_delivers 135 = .ok (.iconst 5, 1) := by decide +kernel
theorem dX4_delivers_136 : decode cX4_delivers 136 = .ok (.aload_n 0, 1) := by decide +kernel
theorem dX4_delivers_137 : decode cX4_delivers 137 = .ok (.iload_n 1, 1) := by decide +kernel
theorem dX4_delivers_138 : decode cX4_delivers 138 = .ok (.sipush 226, 3) := by decide +kernel
theorem dX4_delivers_141 : decode cX4_delivers 141 = .ok (.invokevirtual 40, 3) := by decide +kernel
theorem dX4_delivers_144 : decode cX4_delivers 144 = .ok (.imul, 1) := by decide +kernel
theorem dX4_delivers_145 : decode cX4_delivers 145 = .ok (.iadd, 1) := by decide +kernel
theorem dX4_delivers_146 : decode cX4_delivers 146 = .ok (.invokestatic 28, 3) := by decide +kernel
theorem dX4_delivers_149 : decode cX4_delivers 149 = .ok (.iload_n 1, 1) := by decide +kernel
theorem dX4_delivers_150 : decode cX4_delivers 150 = .ok (.iload_n 2, 1) := by decide +kernel
theorem dX4_delivers_151 : decode cX4_delivers 151 = .ok (.iload_n 3, 1) := by decide +kernel
theorem dX4_delivers_152 : decode cX4_delivers 152 = .ok (.iload 4, 2) := by decide +kernel
theorem dX4_delivers_154 : decode cX4_delivers 154 = .ok (.iload 5, 2) := by decide +kernel
theorem dX4_delivers_156 : decode cX4_delivers 156 = .ok (.invokevirtual 87, 3) := by decide +kernel
theorem dX4_delivers_159 : decode cX4_delivers 159 = .ok (.aload_n 0, 1) := by decide +kernel
theorem dX4_delivers_160 : decode cX4_delivers 160 = .ok (.getfield 7, 3) := by decide +kernel
theorem dX4_delivers_163 : decode cX4_delivers 163 = .ok (.iload_n 1, 1) := by decide +kernel
theorem dX4_delivers_164 : decode cX4_delivers 164 = .ok (.sipush 226, 3) := by decide +kernel
theorem dX4_delivers_167 : decode cX4_delivers 167 = .ok (.invokestatic 28, 3) := by decide +kernel
theorem dX4_delivers_170 : decode cX4_delivers 170 = .ok (.dup2, 1) := by decide +kernel
theorem dX4_delivers_171 : decode cX4_delivers 171 = .ok (.iaload, 1) := by decide +kernel
theorem dX4_delivers_172 : decode cX4_delivers 172 = .ok (.iconst 1, 1) := by decide +kernel
theorem dX4_delivers_173 : decode cX4_delivers 173 = .ok (.iadd, 1) := by decide +kernel
theorem dX4_delivers_174 : decode cX4_delivers 174 = .ok (.iastore, 1) := by decide +kernel
theorem dX4_delivers_175 : decode cX4_delivers 175 = .ok (.return_, 1) := by decide +kernel
theorem dX4_delivers_176 : decode cX4_delivers 176 = .ok (.aload_n 0, 1) := by decide +kernel
theorem dX4_delivers_177 : decode cX4_delivers 177 = .ok (.iload_n 1, 1) := by decide +kernel
theorem dX4_delivers_178 : decode cX4_delivers 178 = .ok (.iload_n 2, 1) := by decide +kernel
theorem dX4_delivers_179 : decode cX4_delivers 179 = .ok (.iload 4, 2) := by decide +kernel
theorem dX4_delivers_181 : decode cX4_delivers 181 = .ok (.iload 5, 2) := by decide +kernel
theorem dX4_delivers_183 : decode cX4_delivers 183 = .ok (.invokevirtual 94, 3) := by decide +kernel
theorem dX4_delivers_186 : decode cX4_delivers 186 = .ok (.aload_n 0, 1) := by decide +kernel
theorem dX4_delivers_187 : decode cX4_delivers 187 = .ok (.iload_n 1, 1) := by decide +kernel
theorem dX4_delivers_188 : decode cX4_delivers 188 = .ok (.iconst 4, 1) := by decide +kernel
theorem dX4_delivers_189 : decode cX4_delivers 189 = .ok (.invokevirtual 40, 3) := by decide +kernel
theorem dX4_delivers_192 : decode cX4_delivers 192 = .ok (.istore 6, 2) := by decide +kernel
theorem dX4_delivers_194 : decode cX4_delivers 194 = .ok (.aload_n 0, 1) := by decide +kernel
theorem dX4_delivers_195 : decode cX4_delivers 195 = .ok (.iload_n 1, 1) := by decide +kernel
theorem dX4_delivers_196 : decode cX4_delivers 196 = .ok (.iconst 1, 1) := by decide +kernel
theorem dX4_delivers_197 : decode cX4_delivers 197 = .ok (.iload_n 2, 1) := by decide +kernel
theorem dX4_delivers_198 : decode cX4_delivers 198 = .ok (.iload_n 3, 1) := by decide +kernel
theorem dX4_delivers_199 : decode cX4_delivers 199 = .ok (.invokevirtual 98, 3) := by decide +kernel
theorem dX4_delivers_202 : decode cX4_delivers 202 = .ok (.aload_n 0, 1) := by decide +kernel
theorem dX4_delivers_203 : decode cX4_delivers 203 = .ok (.iload_n 2, 1) := by decide +kernel
theorem dX4_delivers_204 : decode cX4_delivers 204 = .ok (.iload_n 1, 1) := by decide +kernel
theorem dX4_delivers_205 : decode cX4_delivers 205 = .ok (.iload 6, 2) := by decide +kernel
theorem dX4_delivers_207 : decode cX4_delivers 207 = .ok (.aload_n 0, 1) := by decide +kernel
theorem dX4_delivers_208 : decode cX4_delivers 208 = .ok (.iload_n 1, 1) := by decide +kernel
theorem dX4_delivers_209 : decode cX4_delivers 209 = .ok (.iload 6, 2) := by decide +kernel
theorem dX4_delivers_211 : decode cX4_delivers 211 = .ok (.iconst 1, 1) := by decide +kernel
theorem dX4_delivers_212 : decode cX4_delivers 212 = .ok (.iadd, 1) := by decide +kernel
theorem dX4_delivers_213 : decode cX4_delivers 213 = .ok (.invokevirtual 84, 3) := by decide +kernel
theorem dX4_delivers_216 : decode cX4_delivers 216 = .ok (.invokevirtual 94, 3) := by decide +kernel
theorem dX4_delivers_219 : decode cX4_delivers 219 = .ok (.return_, 1) := by decide +kernel
theorem dX4_reset_0 : decode cX4_reset 0 = .ok (.aload_n 0, 1) := by decide +kernel
theorem dX4_reset_1 : decode cX4_reset 1 = .ok (.iload_n 1, 1) := by decide +kernel
theorem dX4_reset_2 : decode cX4_reset 2 = .ok (.iconst 2, 1) := by decide +kernel
theorem dX4_reset_3 : decode cX4_reset 3 = .ok (.bipush 6, 2) := by decide +kernel
theorem dX4_reset_5 : decode cX4_reset 5 = .ok (.invokestatic 24, 3) := by decide +kernel
theorem dX4_reset_8 : decode cX4_reset 8 = .ok (.ifCond .eq 7, 3) := by decide +kernel
theorem dX4_reset_11 : decode cX4_reset 11 = .ok (.iconst 0, 1) := by decide +kernel
theorem dX4_reset_12 : decode cX4_reset 12 = .ok (.goto 4, 3) := by decide +kernel
theorem dX4_reset_15 : decode cX4_reset 15 = .ok (.iconst 1, 1) := by decide +kernel
theorem dX4_reset_16 : decode cX4_reset 16 = .ok (.invokevirtual 35, 3) := by decide +kernel
theorem dX4_reset_19 : decode cX4_reset 19 = .ok (.ifCond .eq 5, 3) := by decide +kernel
theorem dX4_reset_22 : decode cX4_reset 22 = .ok (.iconst 0, 1) := by decide +kernel
theorem dX4_reset_23 : decode cX4_reset 23 = .ok (.ireturn, 1) := by decide +kernel
theorem dX4_reset_24 : decode cX4_reset 24 = .ok (.aload_n 0, 1) := by decide +kernel
theorem dX4_reset_25 : decode cX4_reset 25 = .ok (.invokevirtual 101, 3) := by decide +kernel
theorem dX4_reset_28 : decode cX4_reset 28 = .ok (.aload_n 0, 1) := by decide +kernel
theorem dX4_reset_29 : decode cX4_reset 29 = .ok (.invokevirtual 66, 3) := by decide +kernel
theorem dX4_reset_32 : decode cX4_reset 32 = .ok (.istore_n 2, 1) := by decide +kernel
theorem dX4_reset_33 : decode cX4_reset 33 = .ok (.aload_n 0, 1) := by decide +kernel
theorem dX4_reset_34 : decode cX4_reset 34 = .ok (.iload_n 1, 1) := by decide +kernel
theorem dX4_reset_35 : decode cX4_reset 35 = .ok (.invokevirtual 16, 3) := by decide +kernel
theorem dX4_reset_38 : decode cX4_reset 38 = .ok (.iload_n 2, 1) := by decide +kernel
theorem dX4_reset_39 : decode cX4_reset 39 = .ok (.ireturn, 1) := by decide +kernel
theorem dX4_input_0 : decode cX4_input 0 = .ok (.aload_n 0, 1) := by decide +kernel
theorem dX4_input_1 : decode cX4_input 1 = .ok (.aload_n 0, 1) := by decide +kernel
theorem dX4_input_2 : decode cX4_input 2 = .ok (.iload_n 1, 1) := by decide +kernel
theorem dX4_input_3 : decode cX4_input 3 = .ok (.invokevirtual 104, 3) := by decide +kernel
theorem dX4_input_6 : decode cX4_input 6 = .ok (.ifCond .ne 7, 3) := by decide +kernel
theorem dX4_input_9 : decode cX4_input 9 = .ok (.iconst 1, 1) := by decide +kernel
theorem dX4_input_10 : decode cX4_input 10 = .ok (.goto 44, 3) := by decide +kernel
theorem dX4_input_13 : decode cX4_input 13 = .ok (.iload_n 2, 1) := by decide +kernel
theorem dX4_input_14 : decode cX4_input 14 = .ok (.iconst 0, 1) := by decide +kernel
theorem dX4_input_15 : decode cX4_input 15 = .ok (.sipush 999, 3) := by decide +kernel
theorem dX4_input_18 : decode cX4_input 18 = .ok (.invokestatic 24, 3) := by decide +kernel
theorem dX4_input_21 : decode cX4_input 21 = .ok (.ifCond .ne 7, 3) := by decide +kernel
theorem dX4_input_24 : decode cX4_input 24 = .ok (.iconst 2, 1) := by decide +kernel
theorem dX4_input_25 : decode cX4_input 25 = .ok (.goto 29, 3) := by decide +kernel
theorem dX4_input_28 : decode cX4_input 28 = .ok (.aload_n 0, 1) := by decide +kernel
theorem dX4_input_29 : decode cX4_input 29 = .ok (.iload_n 1, 1) := by decide +kernel
theorem dX4_input_30 : decode cX4_input 30 = .ok (.invokevirtual 91, 3) := by decide +kernel
theorem dX4_input_33 : decode cX4_input 33 = .ok (.ifCond .eq 20, 3) := by decide +kernel
theorem dX4_input_36 : decode cX4_input 36 = .ok (.aload_n 0, 1) := by decide +kernel
theorem dX4_input_37 : decode cX4_input 37 = .ok (.getfield 7, 3) := by decide +kernel
theorem dX4_input_40 : decode cX4_input 40 = .ok (.sipush 2599, 3) := by decide +kernel
theorem dX4_input_43 : decode cX4_input 43 = .ok (.iaload, 1) := by decide +kernel
theorem dX4_input_44 : decode cX4_input 44 = .ok (.bipush 40, 2) := by decide +kernel
theorem dX4_input_46 : decode cX4_input 46 = .ok (.if_icmp .ge 7, 3) := by decide +kernel
theorem dX4_input_49 : decode cX4_input 49 = .ok (.iconst 0, 1) := by decide +kernel
theorem dX4_input_50 : decode cX4_input 50 = .ok (.goto 4, 3) := by decide +kernel
theorem dX4_input_53 : decode cX4_input 53 = .ok (.iconst 3, 1) := by decide +kernel
theorem dX4_input_54 : decode cX4_input 54 = .ok (.invokevirtual 35, 3) := by decide +kernel
theorem dX4_input_57 : decode cX4_input 57 = .ok (.ifCond .eq 5, 3) := by decide +kernel
theorem dX4_input_60 : decode cX4_input 60 = .ok (.iconst 0, 1) := by decide +kernel
theorem dX4_input_61 : decode cX4_input 61 = .ok (.ireturn, 1) := by decide +kernel
theorem dX4_input_62 : decode cX4_input 62 = .ok (.aload_n 0, 1) := by decide +kernel
theorem dX4_input_63 : decode cX4_input 63 = .ok (.invokevirtual 101, 3) := by decide +kernel
theorem dX4_input_66 : decode cX4_input 66 = .ok (.aload_n 0, 1) := by decide +kernel
theorem dX4_input_67 : decode cX4_input 67 = .ok (.iload_n 1, 1) := by decide +kernel
theorem dX4_input_68 : decode cX4_input 68 = .ok (.iconst 0, 1) := by decide +kernel
theorem dX4_input_69 : decode cX4_input 69 = .ok (.iconst (-1), 1) := by decide +kernel
theorem dX4_input_70 : decode cX4_input 70 = .ok (.iload_n 2, 1) := by decide +kernel
theorem dX4_input_71 : decode cX4_input 71 = .ok (.invokevirtual 98, 3) := by decide +kernel
theorem dX4_input_74 : decode cX4_input 74 = .ok (.aload_n 0, 1) := by decide +kernel
theorem dX4_input_75 : decode cX4_input 75 = .ok (.iload_n 1, 1) := by decide +kernel
theorem dX4_input_76 : decode cX4_input 76 = .ok (.iconst 0, 1) := by decide +kernel
theorem dX4_input_77 : decode cX4_input 77 = .ok (.invokevirtual 40, 3) := by decide +kernel
theorem dX4_input_80 : decode cX4_input 80 = .ok (.ireturn, 1) := by decide +kernel
theorem dX4_deliver_0 : decode cX4_deliver 0 = .ok (.aload_n 0, 1) := by decide +kernel
theorem dX4_deliver_1 : decode cX4_deliver 1 = .ok (.aload_n 0, 1) := by decide +kernel
theorem dX4_deliver_2 : decode cX4_deliver 2 = .ok (.invokevirtual 107, 3) := by decide +kernel
theorem dX4_deliver_5 : decode cX4_deliver 5 = .ok (.ifCond .eq 7, 3) := by decide +kernel
theorem dX4_deliver_8 : decode cX4_deliver 8 = .ok (.iconst 1, 1) := by decide +kernel
theorem dX4_deliver_9 : decode cX4_deliver 9 = .ok (.goto 4, 3) := by decide +kernel
theorem dX4_deliver_12 : decode cX4_deliver 12 = .ok (.iconst 0, 1) := by decide +kernel
theorem dX4_deliver_13 : decode cX4_deliver 13 = .ok (.invokevirtual 35, 3) := by decide +kernel
theorem dX4_deliver_16 : decode cX4_deliver 16 = .ok (.ifCond .eq 5, 3) := by decide +kernel
theorem dX4_deliver_19 : decode cX4_deliver 19 = .ok (.iconst 0, 1) := by decide +kernel
theorem dX4_deliver_20 : decode cX4_deliver 20 = .ok (.ireturn, 1) := by decide +kernel
theorem dX4_deliver_21 : decode cX4_deliver 21 = .ok (.aload_n 0, 1) := by decide +kernel
theorem dX4_deliver_22 : decode cX4_deliver 22 = .ok (.getfield 7, 3) := by decide +kernel
theorem dX4_deliver_25 : decode cX4_deliver 25 = .ok (.sipush 2599, 3) := by decide +kernel
theorem dX4_deliver_28 : decode cX4_deliver 28 = .ok (.iaload, 1) := by decide +kernel
theorem dX4_deliver_29 : decode cX4_deliver 29 = .ok (.ifCond .ne 5, 3) := by decide +kernel
theorem dX4_deliver_32 : decode cX4_deliver 32 = .ok (.iconst (-1), 1) := by decide +kernel
theorem dX4_deliver_33 : decode cX4_deliver 33 = .ok (.ireturn, 1) := by decide +kernel
theorem dX4_deliver_34 : decode cX4_deliver 34 = .ok (.aload_n 0, 1) := by decide +kernel
theorem dX4_deliver_35 : decode cX4_deliver 35 = .ok (.invokevirtual 101, 3) := by decide +kernel
theorem dX4_deliver_38 : decode cX4_deliver 38 = .ok (.aload_n 0, 1) := by decide +kernel
theorem dX4_deliver_39 : decode cX4_deliver 39 = .ok (.getfield 7, 3) := by decide +kernel
theorem dX4_deliver_42 : decode cX4_deliver 42 = .ok (.sipush 2600, 3) := by decide +kernel
theorem dX4_deliver_45 : decode cX4_deliver 45 = .ok (.iaload, 1) := by decide +kernel
theorem dX4_deliver_46 : decode cX4_deliver 46 = .ok (.istore_n 1, 1) := by decide +kernel
theorem dX4_deliver_47 : decode cX4_deliver 47 = .ok (.aload_n 0, 1) := by decide +kernel
theorem dX4_deliver_48 : decode cX4_deliver 48 = .ok (.invokevirtual 111, 3) := by decide +kernel
theorem dX4_deliver_51 : decode cX4_deliver 51 = .ok (.iload_n 1, 1) := by decide +kernel
theorem dX4_deliver_52 : decode cX4_deliver 52 = .ok (.ireturn, 1) := by decide +kernel
theorem dX4_run_0 : decode cX4_run 0 = .ok (.aload_n 0, 1) := by decide +kernel
theorem dX4_run_1 : decode cX4_run 1 = .ok (.iload_n 1, 1) := by decide +kernel
theorem dX4_run_2 : decode cX4_run 2 = .ok (.iconst 1, 1) := by decide +kernel
theorem dX4_run_3 : decode cX4_run 3 = .ok (.bipush 100, 2) := by decide +kernel
theorem dX4_run_5 : decode cX4_run 5 = .ok (.invokestatic 24, 3) := by decide +kernel
theorem dX4_run_8 : decode cX4_run 8 = .ok (.ifCond .eq 7, 3) := by decide +kernel
theorem dX4_run_11 : decode cX4_run 11 = .ok (.iconst 0, 1) := by decide +kernel
theorem dX4_run_12 : decode cX4_run 12 = .ok (.goto 4, 3) := by decide +kernel
theorem dX4_run_15 : decode cX4_run 15 = .ok (.iconst 1, 1) := by decide +kernel
theorem dX4_run_16 : decode cX4_run 16 = .ok (.invokevirtual 35, 3) := by decide +kernel
theorem dX4_run_19 : decode cX4_run 19 = .ok (.ifCond .eq 5, 3) := by decide +kernel
theorem dX4_run_22 : decode cX4_run 22 = .ok (.iconst 0, 1) := by decide +kernel
theorem dX4_run_23 : decode cX4_run 23 = .ok (.ireturn, 1) := by decide +kernel
theorem dX4_run_24 : decode cX4_run 24 = .ok (.aload_n 0, 1) := by decide +kernel
theorem dX4_run_25 : decode cX4_run 25 = .ok (.invokevirtual 101, 3) := by decide +kernel
theorem dX4_run_28 : decode cX4_run 28 = .ok (.iconst 0, 1) := by decide +kernel
theorem dX4_run_29 : decode cX4_run 29 = .ok (.istore_n 2, 1) := by decide +kernel
theorem dX4_run_30 : decode cX4_run 30 = .ok (.iload_n 2, 1) := by decide +kernel
theorem dX4_run_31 : decode cX4_run 31 = .ok (.iload_n 1, 1) := by decide +kernel
theorem dX4_run_32 : decode cX4_run 32 = .ok (.if_icmp .ge 31, 3) := by decide +kernel
theorem dX4_run_35 : decode cX4_run 35 = .ok (.aload_n 0, 1) := by decide +kernel
theorem dX4_run_36 : decode cX4_run 36 = .ok (.getfield 7, 3) := by decide +kernel
theorem dX4_run_39 : decode cX4_run 39 = .ok (.sipush 2599, 3) := by decide +kernel
theorem dX4_run_42 : decode cX4_run 42 = .ok (.iaload, 1) := by decide +kernel
theorem dX4_run_43 : decode cX4_run 43 = .ok (.ifCond .le 20, 3) := by decide +kernel
theorem dX4_run_46 : decode cX4_run 46 = .ok (.aload_n 0, 1) := by decide +kernel
theorem dX4_run_47 : decode cX4_run 47 = .ok (.invokevirtual 107, 3) := by decide +kernel
theorem dX4_run_50 : decode cX4_run 50 = .ok (.ifCond .ne 13, 3) := by decide +kernel
theorem dX4_run_53 : decode cX4_run 53 = .ok (.aload_n 0, 1) := by decide +kernel
theorem dX4_run_54 : decode cX4_run 54 = .ok (.invokevirtual 111, 3) := by decide +kernel
theorem dX4_run_57 : decode cX4_run 57 = .ok (.iinc 2 1, 3) := by decide +kernel
theorem dX4_run_60 : decode cX4_run 60 = .ok (.goto (-30), 3) := by decide +kernel
theorem dX4_run_63 : decode cX4_run 63 = .ok (.iload_n 2, 1) := by decide +kernel
theorem dX4_run_64 : decode cX4_run 64 = .ok (.ireturn, 1) := by decide +kernel
theorem dX4_queued_0 : decode cX4_queued 0 = .ok (.aload_n 0, 1) := by decide +kernel
theorem dX4_queued_1 : decode cX4_queued 1 = .ok (.iconst 0, 1) := by decide +kernel
theorem dX4_queued_2 : decode cX4_queued 2 = .ok (.putfield 20, 3) := by decide +kernel
theorem dX4_queued_5 : decode cX4_queued 5 = .ok (.aload_n 0, 1) := by decide +kernel
theorem dX4_queued_6 : decode cX4_queued 6 = .ok (.getfield 7, 3) := by decide +kernel
theorem dX4_queued_9 : decode cX4_queued 9 = .ok (.sipush 2599, 3) := by decide +kernel
theorem dX4_queued_12 : decode cX4_queued 12 = .ok (.iaload, 1) := by decide +kernel
theorem dX4_queued_13 : decode cX4_queued 13 = .ok (.ireturn, 1) := by decide +kernel
theorem dX4_state_0 : decode cX4_state 0 = .ok (.aload_n 0, 1) := by decide +kernel
theorem dX4_state_1 : decode cX4_state 1 = .ok (.aload_n 0, 1) := by decide +kernel
theorem dX4_state_2 : decode cX4_state 2 = .ok (.iload_n 1, 1) := by decide +kernel
theorem dX4_state_3 : decode cX4_state 3 = .ok (.invokevirtual 104, 3) := by decide +kernel
theorem dX4_state_6 : decode cX4_state 6 = .ok (.ifCond .eq 7, 3) := by decide +kernel
theorem dX4_state_9 : decode cX4_state 9 = .ok (.iconst 0, 1) := by decide +kernel
theorem dX4_state_10 : decode cX4_state 10 = .ok (.goto 4, 3) := by decide +kernel
theorem dX4_state_13 : decode cX4_state 13 = .ok (.iconst 1, 1) := by decide +kernel
theorem dX4_state_14 : decode cX4_state 14 = .ok (.invokevirtual 35, 3) := by decide +kernel
theorem dX4_state_17 : decode cX4_state 17 = .ok (.ifCond .eq 7, 3) := by decide +kernel
theorem dX4_state_20 : decode cX4_state 20 = .ok (.iconst 0, 1) := by decide +kernel
theorem dX4_state_21 : decode cX4_state 21 = .ok (.goto 9, 3) := by decide +kernel
theorem dX4_state_24 : decode cX4_state 24 = .ok (.aload_n 0, 1) := by decide +kernel
theorem dX4_state_25 : decode cX4_state 25 = .ok (.iload_n 1, 1) := by decide +kernel
theorem dX4_state_26 : decode cX4_state 26 = .ok (.iconst 0, 1) := by decide +kernel
theorem dX4_state_27 : decode cX4_state 27 = .ok (.invokevirtual 40, 3) := by decide +kernel
theorem dX4_state_30 : decode cX4_state 30 = .ok (.ireturn, 1) := by decide +kernel
theorem dX4_setSilent_0 : decode cX4_setSilent 0 = .ok (.aload_n 0, 1) := by decide +kernel
theorem dX4_setSilent_1 : decode cX4_setSilent 1 = .ok (.aload_n 0, 1) := by decide +kernel
theorem dX4_setSilent_2 : decode cX4_setSilent 2 = .ok (.iload_n 1, 1) := by decide +kernel
theorem dX4_setSilent_3 : decode cX4_setSilent 3 = .ok (.invokevirtual 104, 3) := by decide +kernel
theorem dX4_setSilent_6 : decode cX4_setSilent 6 = .ok (.ifCond .eq 7, 3) := by decide +kernel
theorem dX4_setSilent_9 : decode cX4_setSilent 9 = .ok (.iconst 0, 1) := by decide +kernel
theorem dX4_setSilent_10 : decode cX4_setSilent 10 = .ok (.goto 4, 3) := by decide +kernel
theorem dX4_setSilent_13 : decode cX4_setSilent 13 = .ok (.iconst 1, 1) := by decide +kernel
theorem dX4_setSilent_14 : decode cX4_setSilent 14 = .ok (.invokevirtual 35, 3) := by decide +kernel
theorem dX4_setSilent_17 : decode cX4_setSilent 17 = .ok (.ifCond .eq 5, 3) := by decide +kernel
theorem dX4_setSilent_20 : decode cX4_setSilent 20 = .ok (.iconst 0, 1) := by decide +kernel
theorem dX4_setSilent_21 : decode cX4_setSilent 21 = .ok (.ireturn, 1) := by decide +kernel
theorem dX4_setSilent_22 : decode cX4_setSilent 22 = .ok (.aload_n 0, 1) := by decide +kernel
theorem dX4_setSilent_23 : decode cX4_setSilent 23 = .ok (.invokevirtual 101, 3) := by decide +kernel
theorem dX4_setSilent_26 : decode cX4_setSilent 26 = .ok (.aload_n 0, 1) := by decide +kernel
theorem dX4_setSilent_27 : decode cX4_setSilent 27 = .ok (.getfield 7, 3) := by decide +kernel
theorem dX4_setSilent_30 : decode cX4_setSilent 30 = .ok (.iload_n 1, 1) := by decide +kernel
theorem dX4_setSilent_31 : decode cX4_setSilent 31 = .ok (.iconst 1, 1) := by decide +kernel
theorem dX4_setSilent_32 : decode cX4_setSilent 32 = .ok (.invokestatic 28, 3) := by decide +kernel
theorem dX4_setSilent_35 : decode cX4_setSilent 35 = .ok (.iload_n 2, 1) := by decide +kernel
theorem dX4_setSilent_36 : decode cX4_setSilent 36 = .ok (.ifCond .eq 7, 3) := by decide +kernel
theorem dX4_setSilent_39 : decode cX4_setSilent 39 = .ok (.iconst 1, 1) := by decide +kernel
theorem dX4_setSilent_40 : decode cX4_setSilent 40 = .ok (.goto 4, 3) := by decide +kernel
theorem dX4_setSilent_43 : decode cX4_setSilent 43 = .ok (.iconst 0, 1) := by decide +kernel
theorem dX4_setSilent_44 : decode cX4_setSilent 44 = .ok (.iastore, 1) := by decide +kernel
theorem dX4_setSilent_45 : decode cX4_setSilent 45 = .ok (.aload_n 0, 1) := by decide +kernel
theorem dX4_setSilent_46 : decode cX4_setSilent 46 = .ok (.iload_n 1, 1) := by decide +kernel
theorem dX4_setSilent_47 : decode cX4_setSilent 47 = .ok (.sipush 226, 3) := by decide +kernel
theorem dX4_setSilent_50 : decode cX4_setSilent 50 = .ok (.invokevirtual 40, 3) := by decide +kernel
theorem dX4_setSilent_53 : decode cX4_setSilent 53 = .ok (.ireturn, 1) := by decide +kernel
theorem dX4_pending_0 : decode cX4_pending 0 = .ok (.aload_n 0, 1) := by decide +kernel
theorem dX4_pending_1 : decode cX4_pending 1 = .ok (.aload_n 0, 1) := by decide +kernel
theorem dX4_pending_2 : decode cX4_pending 2 = .ok (.iload_n 1, 1) := by decide +kernel
theorem dX4_pending_3 : decode cX4_pending 3 = .ok (.invokevirtual 104, 3) := by decide +kernel
theorem dX4_pending_6 : decode cX4_pending 6 = .ok (.ifCond .eq 7, 3) := by decide +kernel
theorem dX4_pending_9 : decode cX4_pending 9 = .ok (.iconst 0, 1) := by decide +kernel
theorem dX4_pending_10 : decode cX4_pending 10 = .ok (.goto 4, 3) := by decide +kernel
theorem dX4_pending_13 : decode cX4_pending 13 = .ok (.iconst 1, 1) := by decide +kernel
theorem dX4_pending_14 : decode cX4_pending 14 = .ok (.invokevirtual 35, 3) := by decide +kernel
theorem dX4_pending_17 : decode cX4_pending 17 = .ok (.ifCond .eq 7, 3) := by decide +kernel
theorem dX4_pending_20 : decode cX4_pending 20 = .ok (.iconst 0, 1) := by decide +kernel
theorem dX4_pending_21 : decode cX4_pending 21 = .ok (.goto 11, 3) := by decide +kernel
theorem dX4_pending_24 : decode cX4_pending 24 = .ok (.aload_n 0, 1) := by decide +kernel
theorem dX4_pending_25 : decode cX4_pending 25 = .ok (.iload_n 1, 1) := by decide +kernel
theorem dX4_pending_26 : decode cX4_pending 26 = .ok (.sipush 226, 3) := by decide +kernel
theorem dX4_pending_29 : decode cX4_pending 29 = .ok (.invokevirtual 40, 3) := by decide +kernel
theorem dX4_pending_32 : decode cX4_pending 32 = .ok (.ireturn, 1) := by decide +kernel
theorem dX4_resend_0 : decode cX4_resend 0 = .ok (.aload_n 0, 1) := by decide +kernel
theorem dX4_resend_1 : decode cX4_resend 1 = .ok (.aload_n 0, 1) := by decide +kernel
theorem dX4_resend_2 : decode cX4_resend 2 = .ok (.iload_n 1, 1) := by decide +kernel
theorem dX4_resend_3 : decode cX4_resend 3 = .ok (.invokevirtual 104, 3) := by decide +kernel
theorem dX4_resend_6 : decode cX4_resend 6 = .ok (.ifCond .ne 7, 3) := by decide +kernel
theorem dX4_resend_9 : decode cX4_resend 9 = .ok (.iconst 1, 1) := by decide +kernel
theorem dX4_resend_10 : decode cX4_resend 10 = .ok (.goto 30, 3) := by decide +kernel
theorem dX4_resend_13 : decode cX4_resend 13 = .ok (.aload_n 0, 1) := by decide +kernel
theorem dX4_resend_14 : decode cX4_resend 14 = .ok (.getfield 7, 3) := by decide +kernel
theorem dX4_resend_17 : decode cX4_resend 17 = .ok (.sipush 2599, 3) := by decide +kernel
theorem dX4_resend_20 : decode cX4_resend 20 = .ok (.iaload, 1) := by decide +kernel
theorem dX4_resend_21 : decode cX4_resend 21 = .ok (.aload_n 0, 1) := by decide +kernel
theorem dX4_resend_22 : decode cX4_resend 22 = .ok (.iload_n 1, 1) := by decide +kernel
theorem dX4_resend_23 : decode cX4_resend 23 = .ok (.sipush 226, 3) := by decide +kernel
theorem dX4_resend_26 : decode cX4_resend 26 = .ok (.invokevirtual 40, 3) := by decide +kernel
theorem dX4_resend_29 : decode cX4_resend 29 = .ok (.iadd, 1) := by decide +kernel
theorem dX4_resend_30 : decode cX4_resend 30 = .ok (.bipush 40, 2) := by decide +kernel
theorem dX4_resend_32 : decode cX4_resend 32 = .ok (.if_icmp .le 7, 3) := by decide +kernel
theorem dX4_resend_35 : decode cX4_resend 35 = .ok (.iconst 2, 1) := by decide +kernel
theorem dX4_resend_36 : decode cX4_resend 36 = .ok (.goto 4, 3) := by decide +kernel
theorem dX4_resend_39 : decode cX4_resend 39 = .ok (.iconst 0, 1) := by decide +kernel
theorem dX4_resend_40 : decode cX4_resend 40 = .ok (.invokevirtual 35, 3) := by decide +kernel
theorem dX4_resend_43 : decode cX4_resend 43 = .ok (.ifCond .eq 5, 3) := by decide +kernel
theorem dX4_resend_46 : decode cX4_resend 46 = .ok (.iconst 0, 1) := by decide +kernel
theorem dX4_resend_47 : decode cX4_resend 47 = .ok (.ireturn, 1) := by decide +kernel
theorem dX4_resend_48 : decode cX4_resend 48 = .ok (.aload_n 0, 1) := by decide +kernel
theorem dX4_resend_49 : decode cX4_resend 49 = .ok (.invokevirtual 101, 3) := by decide +kernel
theorem dX4_resend_52 : decode cX4_resend 52 = .ok (.aload_n 0, 1) := by decide +kernel
theorem dX4_resend_53 : decode cX4_resend 53 = .ok (.iload_n 1, 1) := by decide +kernel
theorem dX4_resend_54 : decode cX4_resend 54 = .ok (.sipush 226, 3) := by decide +kernel
theorem dX4_resend_57 : decode cX4_resend 57 = .ok (.invokevirtual 40, 3) := by decide +kernel
theorem dX4_resend_60 : decode cX4_resend 60 = .ok (.istore_n 2, 1) := by decide +kernel
theorem dX4_resend_61 : decode cX4_resend 61 = .ok (.iconst 0, 1) := by decide +kernel
theorem dX4_resend_62 : decode cX4_resend 62 = .ok (.istore_n 3, 1) := by decide +kernel
theorem dX4_resend_63 : decode cX4_resend 63 = .ok (.iload_n 3, 1) := by decide +kernel
theorem dX4_resend_64 : decode cX4_resend 64 = .ok (.iconst 5, 1) := by decide +kernel
theorem dX4_resend_65 : decode cX4_resend 65 = .ok (.iload_n 2, 1) := by decide +kernel
theorem dX4_resend_66 : decode cX4_resend 66 = .ok (.imul, 1) := by decide +kernel
theorem dX4_resend_67 : decode cX4_resend 67 = .ok (.if_icmp .ge 40, 3) := by decide +kernel
theorem dX4_resend_70 : decode cX4_resend 70 = .ok (.aload_n 0, 1) := by decide +kernel
theorem dX4_resend_71 : decode cX4_resend 71 = .ok (.getfield 7, 3) := by decide +kernel
theorem dX4_resend_74 : decode cX4_resend 74 = .ok (.sipush 2600, 3) := by decide +kernel
theorem dX4_resend_77 : decode cX4_resend 77 = .ok (.iconst 5, 1) := by decide +kernel
theorem dX4_resend_78 : decode cX4_resend 78 = .ok (.aload_n 0, 1) := by decide +kernel
theorem dX4_resend_79 : decode cX4_resend 79 = .ok (.getfield 7, 3) := by decide +kernel
theorem dX4_resend_82 : decode cX4_resend 82 = .ok (.sipush 2599, 3) := by decide +kernel
theorem dX4_resend_85 : decode cX4_resend 85 = .ok (.iaload, 1) := by decide +kernel
theorem dX4_resend_86 : decode cX4_resend 86 = .ok (.imul, 1) := by decide +kernel
theorem dX4_resend_87 : decode cX4_resend 87 = .ok (.iadd, 1) := by decide +kernel
theorem dX4_resend_88 : decode cX4_resend 88 = .ok (.iload_n 3, 1) := by decide +kernel
theorem dX4_resend_89 : decode cX4_resend 89 = .ok (.iadd, 1) := by decide +kernel
theorem dX4_resend_90 : decode cX4_resend 90 = .ok (.aload_n 0, 1) := by decide +kernel
theorem dX4_resend_91 : decode cX4_resend 91 = .ok (.iload_n 1, 1) := by decide +kernel
theorem dX4_resend_92 : decode cX4_resend 92 = .ok (.sipush 227, 3) := by decide +kernel
theorem dX4_resend_95 : decode cX4_resend 95 = .ok (.iload_n 3, 1) := by decide +kernel
theorem dX4_resend_96 : decode cX4_resend 96 = .ok (.iadd, 1) := by decide +kernel
theorem dX4_resend_97 : decode cX4_resend 97 = .ok (.invokevirtual 40, 3) := by decide +kernel
theorem dX4_resend_100 : decode cX4_resend 100 = .ok (.iastore, 1) := by decide +kernel
theorem dX4_resend_101 : decode cX4_resend 101 = .ok (.iinc 3 1, 3) := by decide +kernel
theorem dX4_resend_104 : decode cX4_resend 104 = .ok (.goto (-41), 3) := by decide +kernel
theorem dX4_resend_107 : decode cX4_resend 107 = .ok (.aload_n 0, 1) := by decide +kernel
theorem dX4_resend_108 : decode cX4_resend 108 = .ok (.getfield 7, 3) := by decide +kernel
theorem dX4_resend_111 : decode cX4_resend 111 = .ok (.sipush 2599, 3) := by decide +kernel
theorem dX4_resend_114 : decode cX4_resend 114 = .ok (.dup2, 1) := by decide +kernel
theorem dX4_resend_115 : decode cX4_resend 115 = .ok (.iaload, 1) := by decide +kernel
theorem dX4_resend_116 : decode cX4_resend 116 = .ok (.iload_n 2, 1) := by decide +kernel
theorem dX4_resend_117 : decode cX4_resend 117 = .ok (.iadd, 1) := by decide +kernel
theorem dX4_resend_118 : decode cX4_resend 118 = .ok (.iastore, 1) := by decide +kernel
theorem dX4_resend_119 : decode cX4_resend 119 = .ok (.aload_n 0, 1) := by decide +kernel
theorem dX4_resend_120 : decode cX4_resend 120 = .ok (.getfield 7, 3) := by decide +kernel
theorem dX4_resend_123 : decode cX4_resend 123 = .ok (.iload_n 1, 1) := by decide +kernel
theorem dX4_resend_124 : decode cX4_resend 124 = .ok (.sipush 226, 3) := by decide +kernel
theorem dX4_resend_127 : decode cX4_resend 127 = .ok (.invokestatic 28, 3) := by decide +kernel
theorem dX4_resend_130 : decode cX4_resend 130 = .ok (.iconst 0, 1) := by decide +kernel
theorem dX4_resend_131 : decode cX4_resend 131 = .ok (.iastore, 1) := by decide +kernel
theorem dX4_resend_132 : decode cX4_resend 132 = .ok (.iload_n 2, 1) := by decide +kernel
theorem dX4_resend_133 : decode cX4_resend 133 = .ok (.ireturn, 1) := by decide +kernel
theorem dX4_lie_0 : decode cX4_lie 0 = .ok (.aload_n 0, 1) := by decide +kernel
theorem dX4_lie_1 : decode cX4_lie 1 = .ok (.aload_n 0, 1) := by decide +kernel
theorem dX4_lie_2 : decode cX4_lie 2 = .ok (.iload_n 1, 1) := by decide +kernel
theorem dX4_lie_3 : decode cX4_lie 3 = .ok (.invokevirtual 104, 3) := by decide +kernel
theorem dX4_lie_6 : decode cX4_lie 6 = .ok (.ifCond .eq 7, 3) := by decide +kernel
theorem dX4_lie_9 : decode cX4_lie 9 = .ok (.iconst 0, 1) := by decide +kernel
theorem dX4_lie_10 : decode cX4_lie 10 = .ok (.goto 4, 3) := by decide +kernel
theorem dX4_lie_13 : decode cX4_lie 13 = .ok (.iconst 1, 1) := by decide +kernel
theorem dX4_lie_14 : decode cX4_lie 14 = .ok (.invokevirtual 35, 3) := by decide +kernel
theorem dX4_lie_17 : decode cX4_lie 17 = .ok (.ifCond .eq 5, 3) := by decide +kernel
theorem dX4_lie_20 : decode cX4_lie 20 = .ok (.iconst 0, 1) := by decide +kernel
theorem dX4_lie_21 : decode cX4_lie 21 = .ok (.ireturn, 1) := by decide +kernel
theorem dX4_lie_22 : decode cX4_lie 22 = .ok (.aload_n 0, 1) := by decide +kernel
theorem dX4_lie_23 : decode cX4_lie 23 = .ok (.invokevirtual 101, 3) := by decide +kernel
theorem dX4_lie_26 : decode cX4_lie 26 = .ok (.aload_n 0, 1) := by decide +kernel
theorem dX4_lie_27 : decode cX4_lie 27 = .ok (.iload_n 1, 1) := by decide +kernel
theorem dX4_lie_28 : decode cX4_lie 28 = .ok (.iconst 2, 1) := by decide +kernel
theorem dX4_lie_29 : decode cX4_lie 29 = .ok (.invokevirtual 40, 3) := by decide +kernel
theorem dX4_lie_32 : decode cX4_lie 32 = .ok (.iconst 1, 1) := by decide +kernel
theorem dX4_lie_33 : decode cX4_lie 33 = .ok (.if_icmp .ne 7, 3) := by decide +kernel
theorem dX4_lie_36 : decode cX4_lie 36 = .ok (.iconst 1, 1) := by decide +kernel
theorem dX4_lie_37 : decode cX4_lie 37 = .ok (.goto 4, 3) := by decide +kernel
theorem dX4_lie_40 : decode cX4_lie 40 = .ok (.iconst 0, 1) := by decide +kernel
theorem dX4_lie_41 : decode cX4_lie 41 = .ok (.istore_n 2, 1) := by decide +kernel
theorem dX4_lie_42 : decode cX4_lie 42 = .ok (.aload_n 0, 1) := by decide +kernel
theorem dX4_lie_43 : decode cX4_lie 43 = .ok (.getfield 7, 3) := by decide +kernel
theorem dX4_lie_46 : decode cX4_lie 46 = .ok (.iload_n 1, 1) := by decide +kernel
theorem dX4_lie_47 : decode cX4_lie 47 = .ok (.iconst 2, 1) := by decide +kernel
theorem dX4_lie_48 : decode cX4_lie 48 = .ok (.invokestatic 28, 3) := by decide +kernel
theorem dX4_lie_51 : decode cX4_lie 51 = .ok (.iconst 1, 1) := by decide +kernel
theorem dX4_lie_52 : decode cX4_lie 52 = .ok (.iastore, 1) := by decide +kernel
theorem dX4_lie_53 : decode cX4_lie 53 = .ok (.iload_n 2, 1) := by decide +kernel
theorem dX4_lie_54 : decode cX4_lie 54 = .ok (.ireturn, 1) := by decide +kernel
theorem dX4_isEntry_0 : decode cX4_isEntry 0 = .ok (.aload_n 0, 1) := by decide +kernel
theorem dX4_isEntry_1 : decode cX4_isEntry 1 = .ok (.iload_n 1, 1) := by decide +kernel
theorem dX4_isEntry_2 : decode cX4_isEntry 2 = .ok (.invokevirtual 104, 3) := by decide +kernel
theorem dX4_isEntry_5 : decode cX4_isEntry 5 = .ok (.ifCond .eq 23, 3) := by decide +kernel
theorem dX4_isEntry_8 : decode cX4_isEntry 8 = .ok (.iload_n 2, 1) := by decide +kernel
theorem dX4_isEntry_9 : decode cX4_isEntry 9 = .ok (.iconst 0, 1) := by decide +kernel
theorem dX4_isEntry_10 : decode cX4_isEntry 10 = .ok (.aload_n 0, 1) := by decide +kernel
theorem dX4_isEntry_11 : decode cX4_isEntry 11 = .ok (.iload_n 1, 1) := by decide +kernel
theorem dX4_isEntry_12 : decode cX4_isEntry 12 = .ok (.iconst 4, 1) := by decide +kernel
theorem dX4_isEntry_13 : decode cX4_isEntry 13 = .ok (.invokevirtual 40, 3) := by decide +kernel
theorem dX4_isEntry_16 : decode cX4_isEntry 16 = .ok (.iconst 1, 1) := by decide +kernel
theorem dX4_isEntry_17 : decode cX4_isEntry 17 = .ok (.isub, 1) := by decide +kernel
theorem dX4_isEntry_18 : decode cX4_isEntry 18 = .ok (.invokestatic 24, 3) := by decide +kernel
theorem dX4_isEntry_21 : decode cX4_isEntry 21 = .ok (.ifCond .eq 7, 3) := by decide +kernel
theorem dX4_isEntry_24 : decode cX4_isEntry 24 = .ok (.iconst 1, 1) := by decide +kernel
theorem dX4_isEntry_25 : decode cX4_isEntry 25 = .ok (.goto 4, 3) := by decide +kernel
theorem dX4_isEntry_28 : decode cX4_isEntry 28 = .ok (.iconst 0, 1) := by decide +kernel
theorem dX4_isEntry_29 : decode cX4_isEntry 29 = .ok (.ireturn, 1) := by decide +kernel
theorem dX4_tamper_0 : decode cX4_tamper 0 = .ok (.aload_n 0, 1) := by decide +kernel
theorem dX4_tamper_1 : decode cX4_tamper 1 = .ok (.aload_n 0, 1) := by decide +kernel
theorem dX4_tamper_2 : decode cX4_tamper 2 = .ok (.iload_n 1, 1) := by decide +kernel
theorem dX4_tamper_3 : decode cX4_tamper 3 = .ok (.iload_n 2, 1) := by decide +kernel
theorem dX4_tamper_4 : decode cX4_tamper 4 = .ok (.invokevirtual 114, 3) := by decide +kernel
theorem dX4_tamper_7 : decode cX4_tamper 7 = .ok (.ifCond .ne 7, 3) := by decide +kernel
theorem dX4_tamper_10 : decode cX4_tamper 10 = .ok (.iconst 1, 1) := by decide +kernel
theorem dX4_tamper_11 : decode cX4_tamper 11 = .ok (.goto 19, 3) := by decide +kernel
theorem dX4_tamper_14 : decode cX4_tamper 14 = .ok (.iload_n 3, 1) := by decide +kernel
theorem dX4_tamper_15 : decode cX4_tamper 15 = .ok (.iconst 0, 1) := by decide +kernel
theorem dX4_tamper_16 : decode cX4_tamper 16 = .ok (.sipush 999, 3) := by decide +kernel
theorem dX4_tamper_19 : decode cX4_tamper 19 = .ok (.invokestatic 24, 3) := by decide +kernel
theorem dX4_tamper_22 : decode cX4_tamper 22 = .ok (.ifCond .eq 7, 3) := by decide +kernel
theorem dX4_tamper_25 : decode cX4_tamper 25 = .ok (.iconst 0, 1) := by decide +kernel
theorem dX4_tamper_26 : decode cX4_tamper 26 = .ok (.goto 4, 3) := by decide +kernel
theorem dX4_tamper_29 : decode cX4_tamper 29 = .ok (.iconst 2, 1) := by decide +kernel
theorem dX4_tamper_30 : decode cX4_tamper 30 = .ok (.invokevirtual 35, 3) := by decide +kernel
theorem dX4_tamper_33 : decode cX4_tamper 33 = .ok (.ifCond .eq 5, 3) := by decide +kernel
theorem dX4_tamper_36 : decode cX4_tamper 36 = .ok (.iconst 0, 1) := by decide +kernel
theorem dX4_tamper_37 : decode cX4_tamper 37 = .ok (.ireturn, 1) := by decide +kernel
theorem dX4_tamper_38 : decode cX4_tamper 38 = .ok (.aload_n 0, 1) := by decide +kernel
theorem dX4_tamper_39 : decode cX4_tamper 39 = .ok (.invokevirtual 101, 3) := by decide +kernel
theorem dX4_tamper_42 : decode cX4_tamper 42 = .ok (.aload_n 0, 1) := by decide +kernel
theorem dX4_tamper_43 : decode cX4_tamper 43 = .ok (.iload_n 1, 1) := by decide +kernel
theorem dX4_tamper_44 : decode cX4_tamper 44 = .ok (.iload_n 2, 1) := by decide +kernel
theorem dX4_tamper_45 : decode cX4_tamper 45 = .ok (.invokevirtual 43, 3) := by decide +kernel
theorem dX4_tamper_48 : decode cX4_tamper 48 = .ok (.istore 4, 2) := by decide +kernel
theorem dX4_tamper_50 : decode cX4_tamper 50 = .ok (.aload_n 0, 1) := by decide +kernel
theorem dX4_tamper_51 : decode cX4_tamper 51 = .ok (.getfield 7, 3) := by decide +kernel
theorem dX4_tamper_54 : decode cX4_tamper 54 = .ok (.iload_n 1, 1) := by decide +kernel
theorem dX4_tamper_55 : decode cX4_tamper 55 = .ok (.iconst 5, 1) := by decide +kernel
theorem dX4_tamper_56 : decode cX4_tamper 56 = .ok (.iload_n 2, 1) := by decide +kernel
theorem dX4_tamper_57 : decode cX4_tamper 57 = .ok (.iadd, 1) := by decide +kernel
theorem dX4_tamper_58 : decode cX4_tamper 58 = .ok (.invokestatic 28, 3) := by decide +kernel
theorem dX4_tamper_61 : decode cX4_tamper 61 = .ok (.iload 4, 2) := by decide +kernel
theorem dX4_tamper_63 : decode cX4_tamper 63 = .ok (.iload 4, 2) := by decide +kernel
theorem dX4_tamper_65 : decode cX4_tamper 65 = .ok (.invokestatic 61, 3) := by decide +kernel
theorem dX4_tamper_68 : decode cX4_tamper 68 = .ok (.isub, 1) := by decide +kernel
theorem dX4_tamper_69 : decode cX4_tamper 69 = .ok (.iload_n 3, 1) := by decide +kernel
theorem dX4_tamper_70 : decode cX4_tamper 70 = .ok (.iadd, 1) := by decide +kernel
theorem dX4_tamper_71 : decode cX4_tamper 71 = .ok (.iastore, 1) := by decide +kernel
theorem dX4_tamper_72 : decode cX4_tamper 72 = .ok (.iload 4, 2) := by decide +kernel
theorem dX4_tamper_74 : decode cX4_tamper 74 = .ok (.invokestatic 61, 3) := by decide +kernel
theorem dX4_tamper_77 : decode cX4_tamper 77 = .ok (.ireturn, 1) := by decide +kernel
theorem dX4_cut_0 : decode cX4_cut 0 = .ok (.aload_n 0, 1) := by decide +kernel
theorem dX4_cut_1 : decode cX4_cut 1 = .ok (.aload_n 0, 1) := by decide +kernel
theorem dX4_cut_2 : decode cX4_cut 2 = .ok (.iload_n 1, 1) := by decide +kernel
theorem dX4_cut_3 : decode cX4_cut 3 = .ok (.invokevirtual 104, 3) := by decide +kernel
theorem dX4_cut_6 : decode cX4_cut 6 = .ok (.ifCond .ne 7, 3) := by decide +kernel
theorem dX4_cut_9 : decode cX4_cut 9 = .ok (.iconst 1, 1) := by decide +kernel
theorem dX4_cut_10 : decode cX4_cut 10 = .ok (.goto 22, 3) := by decide +kernel
theorem dX4_cut_13 : decode cX4_cut 13 = .ok (.iload_n 2, 1) := by decide +kernel
theorem dX4_cut_14 : decode cX4_cut 14 = .ok (.iconst 1, 1) := by decide +kernel
theorem dX4_cut_15 : decode cX4_cut 15 = .ok (.aload_n 0, 1) := by decide +kernel
theorem dX4_cut_16 : decode cX4_cut 16 = .ok (.iload_n 1, 1) := by decide +kernel
theorem dX4_cut_17 : decode cX4_cut 17 = .ok (.iconst 4, 1) := by decide +kernel
theorem dX4_cut_18 : decode cX4_cut 18 = .ok (.invokevirtual 40, 3) := by decide +kernel
theorem dX4_cut_21 : decode cX4_cut 21 = .ok (.invokestatic 24, 3) := by decide +kernel
theorem dX4_cut_24 : decode cX4_cut 24 = .ok (.ifCond .eq 7, 3) := by decide +kernel
theorem dX4_cut_27 : decode cX4_cut 27 = .ok (.iconst 0, 1) := by decide +kernel
theorem dX4_cut_28 : decode cX4_cut 28 = .ok (.goto 4, 3) := by decide +kernel
theorem dX4_cut_31 : decode cX4_cut 31 = .ok (.iconst 2, 1) := by decide +kernel
theorem dX4_cut_32 : decode cX4_cut 32 = .ok (.invokevirtual 35, 3) := by decide +kernel
theorem dX4_cut_35 : decode cX4_cut 35 = .ok (.ifCond .eq 5, 3) := by decide +kernel
theorem dX4_cut_38 : decode cX4_cut 38 = .ok (.iconst 0, 1) := by decide +kernel
theorem dX4_cut_39 : decode cX4_cut 39 = .ok (.ireturn, 1) := by decide +kernel
theorem dX4_cut_40 : decode cX4_cut 40 = .ok (.aload_n 0, 1) := by decide +kernel
theorem dX4_cut_41 : decode cX4_cut 41 = .ok (.invokevirtual 101, 3) := by decide +kernel
theorem dX4_cut_44 : decode cX4_cut 44 = .ok (.aload_n 0, 1) := by decide +kernel
theorem dX4_cut_45 : decode cX4_cut 45 = .ok (.getfield 7, 3) := by decide +kernel
theorem dX4_cut_48 : decode cX4_cut 48 = .ok (.iload_n 1, 1) := by decide +kernel
theorem dX4_cut_49 : decode cX4_cut 49 = .ok (.iconst 4, 1) := by decide +kernel
theorem dX4_cut_50 : decode cX4_cut 50 = .ok (.invokestatic 28, 3) := by decide +kernel
theorem dX4_cut_53 : decode cX4_cut 53 = .ok (.dup2, 1) := by decide +kernel
theorem dX4_cut_54 : decode cX4_cut 54 = .ok (.iaload, 1) := by decide +kernel
theorem dX4_cut_55 : decode cX4_cut 55 = .ok (.iload_n 2, 1) := by decide +kernel
theorem dX4_cut_56 : decode cX4_cut 56 = .ok (.isub, 1) := by decide +kernel
theorem dX4_cut_57 : decode cX4_cut 57 = .ok (.iastore, 1) := by decide +kernel
theorem dX4_cut_58 : decode cX4_cut 58 = .ok (.aload_n 0, 1) := by decide +kernel
theorem dX4_cut_59 : decode cX4_cut 59 = .ok (.iload_n 1, 1) := by decide +kernel
theorem dX4_cut_60 : decode cX4_cut 60 = .ok (.iconst 4, 1) := by decide +kernel
theorem dX4_cut_61 : decode cX4_cut 61 = .ok (.invokevirtual 40, 3) := by decide +kernel
theorem dX4_cut_64 : decode cX4_cut 64 = .ok (.ireturn, 1) := by decide +kernel
theorem dX4_logLength_0 : decode cX4_logLength 0 = .ok (.aload_n 0, 1) := by decide +kernel
theorem dX4_logLength_1 : decode cX4_logLength 1 = .ok (.aload_n 0, 1) := by decide +kernel
theorem dX4_logLength_2 : decode cX4_logLength 2 = .ok (.iload_n 1, 1) := by decide +kernel
theorem dX4_logLength_3 : decode cX4_logLength 3 = .ok (.invokevirtual 104, 3) := by decide +kernel
theorem dX4_logLength_6 : decode cX4_logLength 6 = .ok (.ifCond .eq 7, 3) := by decide +kernel
theorem dX4_logLength_9 : decode cX4_logLength 9 = .ok (.iconst 0, 1) := by decide +kernel
theorem dX4_logLength_10 : decode cX4_logLength 10 = .ok (.goto 4, 3) := by decide +kernel
theorem dX4_logLength_13 : decode cX4_logLength 13 = .ok (.iconst 1, 1) := by decide +kernel
theorem dX4_logLength_14 : decode cX4_logLength 14 = .ok (.invokevirtual 35, 3) := by decide +kernel
theorem dX4_logLength_17 : decode cX4_logLength 17 = .ok (.ifCond .eq 7, 3) := by decide +kernel
theorem dX4_logLength_20 : decode cX4_logLength 20 = .ok (.iconst 0, 1) := by decide +kernel
theorem dX4_logLength_21 : decode cX4_logLength 21 = .ok (.goto 9, 3) := by decide +kernel
theorem dX4_logLength_24 : decode cX4_logLength 24 = .ok (.aload_n 0, 1) := by decide +kernel
theorem dX4_logLength_25 : decode cX4_logLength 25 = .ok (.iload_n 1, 1) := by decide +kernel
theorem dX4_logLength_26 : decode cX4_logLength 26 = .ok (.iconst 4, 1) := by decide +kernel
theorem dX4_logLength_27 : decode cX4_logLength 27 = .ok (.invokevirtual 40, 3) := by decide +kernel
theorem dX4_logLength_30 : decode cX4_logLength 30 = .ok (.ireturn, 1) := by decide +kernel
theorem dX4_entry_0 : decode cX4_entry 0 = .ok (.aload_n 0, 1) := by decide +kernel
theorem dX4_entry_1 : decode cX4_entry 1 = .ok (.aload_n 0, 1) := by decide +kernel
theorem dX4_entry_2 : decode cX4_entry 2 = .ok (.iload_n 1, 1) := by decide +kernel
theorem dX4_entry_3 : decode cX4_entry 3 = .ok (.iload_n 2, 1) := by decide +kernel
theorem dX4_entry_4 : decode cX4_entry 4 = .ok (.invokevirtual 114, 3) := by decide +kernel
theorem dX4_entry_7 : decode cX4_entry 7 = .ok (.ifCond .eq 7, 3) := by decide +kernel
theorem dX4_entry_10 : decode cX4_entry 10 = .ok (.iconst 0, 1) := by decide +kernel
theorem dX4_entry_11 : decode cX4_entry 11 = .ok (.goto 4, 3) := by decide +kernel
theorem dX4_entry_14 : decode cX4_entry 14 = .ok (.iconst 1, 1) := by decide +kernel
theorem dX4_entry_15 : decode cX4_entry 15 = .ok (.invokevirtual 35, 3) := by decide +kernel
theorem dX4_entry_18 : decode cX4_entry 18 = .ok (.ifCond .eq 7, 3) := by decide +kernel
theorem dX4_entry_21 : decode cX4_entry 21 = .ok (.iconst 0, 1) := by decide +kernel
theorem dX4_entry_22 : decode cX4_entry 22 = .ok (.goto 9, 3) := by decide +kernel
theorem dX4_entry_25 : decode cX4_entry 25 = .ok (.aload_n 0, 1) := by decide +kernel
theorem dX4_entry_26 : decode cX4_entry 26 = .ok (.iload_n 1, 1) := by decide +kernel
theorem dX4_entry_27 : decode cX4_entry 27 = .ok (.iload_n 2, 1) := by decide +kernel
theorem dX4_entry_28 : decode cX4_entry 28 = .ok (.invokevirtual 43, 3) := by decide +kernel
theorem dX4_entry_31 : decode cX4_entry 31 = .ok (.ireturn, 1) := by decide +kernel
theorem dX4_chain_0 : decode cX4_chain 0 = .ok (.aload_n 0, 1) := by decide +kernel
theorem dX4_chain_1 : decode cX4_chain 1 = .ok (.aload_n 0, 1) := by decide +kernel
theorem dX4_chain_2 : decode cX4_chain 2 = .ok (.iload_n 1, 1) := by decide +kernel
theorem dX4_chain_3 : decode cX4_chain 3 = .ok (.invokevirtual 104, 3) := by decide +kernel
theorem dX4_chain_6 : decode cX4_chain 6 = .ok (.ifCond .eq 21, 3) := by decide +kernel
theorem dX4_chain_9 : decode cX4_chain 9 = .ok (.iload_n 2, 1) := by decide +kernel
theorem dX4_chain_10 : decode cX4_chain 10 = .ok (.iconst 0, 1) := by decide +kernel
theorem dX4_chain_11 : decode cX4_chain 11 = .ok (.aload_n 0, 1) := by decide +kernel
theorem dX4_chain_12 : decode cX4_chain 12 = .ok (.iload_n 1, 1) := by decide +kernel
theorem dX4_chain_13 : decode cX4_chain 13 = .ok (.iconst 4, 1) := by decide +kernel
theorem dX4_chain_14 : decode cX4_chain 14 = .ok (.invokevirtual 40, 3) := by decide +kernel
theorem dX4_chain_17 : decode cX4_chain 17 = .ok (.invokestatic 24, 3) := by decide +kernel
theorem dX4_chain_20 : decode cX4_chain 20 = .ok (.ifCond .eq 7, 3) := by decide +kernel
theorem dX4_chain_23 : decode cX4_chain 23 = .ok (.iconst 0, 1) := by decide +kernel
theorem dX4_chain_24 : decode cX4_chain 24 = .ok (.goto 4, 3) := by decide +kernel
theorem dX4_chain_27 : decode cX4_chain 27 = .ok (.iconst 1, 1) := by decide +kernel
theorem dX4_chain_28 : decode cX4_chain 28 = .ok (.invokevirtual 35, 3) := by decide +kernel
theorem dX4_chain_31 : decode cX4_chain 31 = .ok (.ifCond .eq 7, 3) := by decide +kernel
theorem dX4_chain_34 : decode cX4_chain 34 = .ok (.iconst 0, 1) := by decide +kernel
theorem dX4_chain_35 : decode cX4_chain 35 = .ok (.goto 9, 3) := by decide +kernel
theorem dX4_chain_38 : decode cX4_chain 38 = .ok (.aload_n 0, 1) := by decide +kernel
theorem dX4_chain_39 : decode cX4_chain 39 = .ok (.iload_n 1, 1) := by decide +kernel
theorem dX4_chain_40 : decode cX4_chain 40 = .ok (.iload_n 2, 1) := by decide +kernel
theorem dX4_chain_41 : decode cX4_chain 41 = .ok (.invokevirtual 84, 3) := by decide +kernel
theorem dX4_chain_44 : decode cX4_chain 44 = .ok (.ireturn, 1) := by decide +kernel
theorem dX4_held_0 : decode cX4_held 0 = .ok (.aload_n 0, 1) := by decide +kernel
theorem dX4_held_1 : decode cX4_held 1 = .ok (.aload_n 0, 1) := by decide +kernel
theorem dX4_held_2 : decode cX4_held 2 = .ok (.iload_n 1, 1) := by decide +kernel
theorem dX4_held_3 : decode cX4_held 3 = .ok (.invokevirtual 104, 3) := by decide +kernel
theorem dX4_held_6 : decode cX4_held 6 = .ok (.ifCond .eq 7, 3) := by decide +kernel
theorem dX4_held_9 : decode cX4_held 9 = .ok (.iconst 0, 1) := by decide +kernel
theorem dX4_held_10 : decode cX4_held 10 = .ok (.goto 4, 3) := by decide +kernel
theorem dX4_held_13 : decode cX4_held 13 = .ok (.iconst 1, 1) := by decide +kernel
theorem dX4_held_14 : decode cX4_held 14 = .ok (.invokevirtual 35, 3) := by decide +kernel
theorem dX4_held_17 : decode cX4_held 17 = .ok (.ifCond .eq 7, 3) := by decide +kernel
theorem dX4_held_20 : decode cX4_held 20 = .ok (.iconst 0, 1) := by decide +kernel
theorem dX4_held_21 : decode cX4_held 21 = .ok (.goto 10, 3) := by decide +kernel
theorem dX4_held_24 : decode cX4_held 24 = .ok (.aload_n 0, 1) := by decide +kernel
theorem dX4_held_25 : decode cX4_held 25 = .ok (.iload_n 1, 1) := by decide +kernel
theorem dX4_held_26 : decode cX4_held 26 = .ok (.bipush 45, 2) := by decide +kernel
theorem dX4_held_28 : decode cX4_held 28 = .ok (.invokevirtual 40, 3) := by decide +kernel
theorem dX4_held_31 : decode cX4_held 31 = .ok (.ireturn, 1) := by decide +kernel
theorem dX4_authenticator_0 : decode cX4_authenticator 0 = .ok (.aload_n 0, 1) := by decide +kernel
theorem dX4_authenticator_1 : decode cX4_authenticator 1 = .ok (.aload_n 0, 1) := by decide +kernel
theorem dX4_authenticator_2 : decode cX4_authenticator 2 = .ok (.iload_n 1, 1) := by decide +kernel
theorem dX4_authenticator_3 : decode cX4_authenticator 3 = .ok (.invokevirtual 104, 3) := by decide +kernel
theorem dX4_authenticator_6 : decode cX4_authenticator 6 = .ok (.ifCond .eq 20, 3) := by decide +kernel
theorem dX4_authenticator_9 : decode cX4_authenticator 9 = .ok (.iload_n 2, 1) := by decide +kernel
theorem dX4_authenticator_10 : decode cX4_authenticator 10 = .ok (.iconst 0, 1) := by decide +kernel
theorem dX4_authenticator_11 : decode cX4_authenticator 11 = .ok (.aload_n 0, 1) := by decide +kernel
theorem dX4_authenticator_12 : decode cX4_authenticator 12 = .ok (.iload_n 1, 1) := by decide +kernel
theorem dX4_authenticator_13 : decode cX4_authenticator 13 = .ok (.bipush 45, 2) := by decide +kernel
theorem dX4_authenticator_15 : decode cX4_authenticator 15 = .ok (.invokevirtual 40, 3) := by decide +kernel
theorem dX4_authenticator_18 : decode cX4_authenticator 18 = .ok (.iconst 1, 1) := by decide +kernel
theorem dX4_authenticator_19 : decode cX4_authenticator 19 = .ok (.isub, 1) := by decide +kernel
theorem dX4_authenticator_20 : decode cX4_authenticator 20 = .ok (.invokestatic 24, 3) := by decide +kernel
theorem dX4_authenticator_23 : decode cX4_authenticator 23 = .ok (.ifCond .ne 7, 3) := by decide +kernel
theorem dX4_authenticator_26 : decode cX4_authenticator 26 = .ok (.iconst 1, 1) := by decide +kernel
theorem dX4_authenticator_27 : decode cX4_authenticator 27 = .ok (.goto 17, 3) := by decide +kernel
theorem dX4_authenticator_30 : decode cX4_authenticator 30 = .ok (.iload_n 3, 1) := by decide +kernel
theorem dX4_authenticator_31 : decode cX4_authenticator 31 = .ok (.iconst 0, 1) := by decide +kernel
theorem dX4_authenticator_32 : decode cX4_authenticator 32 = .ok (.iconst 2, 1) := by decide +kernel
theorem dX4_authenticator_33 : decode cX4_authenticator 33 = .ok (.invokestatic 24, 3) := by decide +kernel
theorem dX4_authenticator_36 : decode cX4_authenticator 36 = .ok (.ifCond .eq 7, 3) := by decide +kernel
theorem dX4_authenticator_39 : decode cX4_authenticator 39 = .ok (.iconst 0, 1) := by decide +kernel
theorem dX4_authenticator_40 : decode cX4_authenticator 40 = .ok (.goto 4, 3) := by decide +kernel
theorem dX4_authenticator_43 : decode cX4_authenticator 43 = .ok (.iconst 2, 1) := by decide +kernel
theorem dX4_authenticator_44 : decode cX4_authenticator 44 = .ok (.invokevirtual 35, 3) := by decide +kernel
theorem dX4_authenticator_47 : decode cX4_authenticator 47 = .ok (.ifCond .eq 5, 3) := by decide +kernel
theorem dX4_authenticator_50 : decode cX4_authenticator 50 = .ok (.iconst 0, 1) := by decide +kernel
theorem dX4_authenticator_51 : decode cX4_authenticator 51 = .ok (.ireturn, 1) := by decide +kernel
theorem dX4_authenticator_52 : decode cX4_authenticator 52 = .ok (.aload_n 0, 1) := by decide +kernel
theorem dX4_authenticator_53 : decode cX4_authenticator 53 = .ok (.iload_n 1, 1) := by decide +kernel
theorem dX4_authenticator_54 : decode cX4_authenticator 54 = .ok (.bipush 46, 2) := by decide +kernel
theorem dX4_authenticator_56 : decode cX4_authenticator 56 = .ok (.iconst 3, 1) := by decide +kernel
theorem dX4_authenticator_57 : decode cX4_authenticator 57 = .ok (.iload_n 2, 1) := by decide +kernel
theorem dX4_authenticator_58 : decode cX4_authenticator 58 = .ok (.imul, 1) := by decide +kernel
theorem dX4_authenticator_59 : decode cX4_authenticator 59 = .ok (.iadd, 1) := by decide +kernel
theorem dX4_authenticator_60 : decode cX4_authenticator 60 = .ok (.iload_n 3, 1) := by decide +kernel
theorem dX4_authenticator_61 : decode cX4_authenticator 61 = .ok (.iadd, 1) := by decide +kernel
theorem dX4_authenticator_62 : decode cX4_authenticator 62 = .ok (.invokevirtual 40, 3) := by decide +kernel
theorem dX4_authenticator_65 : decode cX4_authenticator 65 = .ok (.ireturn, 1) := by decide +kernel
theorem dX4_setWitnesses_0 : decode cX4_setWitnesses 0 = .ok (.aload_n 0, 1) := by decide +kernel
theorem dX4_setWitnesses_1 : decode cX4_setWitnesses 1 = .ok (.aload_n 0, 1) := by decide +kernel
theorem dX4_setWitnesses_2 : decode cX4_setWitnesses 2 = .ok (.iload_n 1, 1) := by decide +kernel
theorem dX4_setWitnesses_3 : decode cX4_setWitnesses 3 = .ok (.invokevirtual 104, 3) := by decide +kernel
theorem dX4_setWitnesses_6 : decode cX4_setWitnesses 6 = .ok (.ifCond .ne 7, 3) := by decide +kernel
theorem dX4_setWitnesses_9 : decode cX4_setWitnesses 9 = .ok (.iconst 1, 1) := by decide +kernel
theorem dX4_setWitnesses_10 : decode cX4_setWitnesses 10 = .ok (.goto 32, 3) := by decide +kernel
theorem dX4_setWitnesses_13 : decode cX4_setWitnesses 13 = .ok (.iload_n 2, 1) := by decide +kernel
theorem dX4_setWitnesses_14 : decode cX4_setWitnesses 14 = .ok (.iconst 0, 1) := by decide +kernel
theorem dX4_setWitnesses_15 : decode cX4_setWitnesses 15 = .ok (.iconst 1, 1) := by decide +kernel
theorem dX4_setWitnesses_16 : decode cX4_setWitnesses 16 = .ok (.aload_n 0, 1) := by decide +kernel
theorem dX4_setWitnesses_17 : decode cX4_setWitnesses 17 = .ok (.invokevirtual 66, 3) := by decide +kernel
theorem dX4_setWitnesses_20 : decode cX4_setWitnesses 20 = .ok (.ishl, 1) := by decide +kernel
theorem dX4_setWitnesses_21 : decode cX4_setWitnesses 21 = .ok (.iconst 1, 1) := by decide +kernel
theorem dX4_setWitnesses_22 : decode cX4_setWitnesses 22 = .ok (.isub, 1) := by decide +kernel
theorem dX4_setWitnesses_23 : decode cX4_setWitnesses 23 = .ok (.invokestatic 24, 3) := by decide +kernel
theorem dX4_setWitnesses_26 : decode cX4_setWitnesses 26 = .ok (.ifCond .eq 15, 3) := by decide +kernel
theorem dX4_setWitnesses_29 : decode cX4_setWitnesses 29 = .ok (.iload_n 2, 1) := by decide +kernel
theorem dX4_setWitnesses_30 : decode cX4_setWitnesses 30 = .ok (.iload_n 1, 1) := by decide +kernel
theorem dX4_setWitnesses_31 : decode cX4_setWitnesses 31 = .ok (.ishr, 1) := by decide +kernel
theorem dX4_setWitnesses_32 : decode cX4_setWitnesses 32 = .ok (.iconst 1, 1) := by decide +kernel
theorem dX4_setWitnesses_33 : decode cX4_setWitnesses 33 = .ok (.iand, 1) := by decide +kernel
theorem dX4_setWitnesses_34 : decode cX4_setWitnesses 34 = .ok (.ifCond .ne 7, 3) := by decide +kernel
theorem dX4_setWitnesses_37 : decode cX4_setWitnesses 37 = .ok (.iconst 0, 1) := by decide +kernel
theorem dX4_setWitnesses_38 : decode cX4_setWitnesses 38 = .ok (.goto 4, 3) := by decide +kernel
theorem dX4_setWitnesses_41 : decode cX4_setWitnesses 41 = .ok (.iconst 2, 1) := by decide +kernel
theorem dX4_setWitnesses_42 : decode cX4_setWitnesses 42 = .ok (.invokevirtual 35, 3) := by decide +kernel
theorem dX4_setWitnesses_45 : decode cX4_setWitnesses 45 = .ok (.ifCond .eq 5, 3) := by decide +kernel
theorem dX4_setWitnesses_48 : decode cX4_setWitnesses 48 = .ok (.iconst 0, 1) := by decide +kernel
theorem dX4_setWitnesses_49 : decode cX4_setWitnesses 49 = .ok (.ireturn, 1) := by decide +kernel
theorem dX4_setWitnesses_50 : decode cX4_setWitnesses 50 = .ok (.aload_n 0, 1) := by decide +kernel
theorem dX4_setWitnesses_51 : decode cX4_setWitnesses 51 = .ok (.invokevirtual 101, 3) := by decide +kernel
theorem dX4_setWitnesses_54 : decode cX4_setWitnesses 54 = .ok (.aload_n 0, 1) := by decide +kernel
theorem dX4_setWitnesses_55 : decode cX4_setWitnesses 55 = .ok (.iload_n 1, 1) := by decide +kernel
theorem dX4_setWitnesses_56 : decode cX4_setWitnesses 56 = .ok (.iconst 3, 1) := by decide +kernel
theorem dX4_setWitnesses_57 : decode cX4_setWitnesses 57 = .ok (.invokevirtual 40, 3) := by decide +kernel
theorem dX4_setWitnesses_60 : decode cX4_setWitnesses 60 = .ok (.istore_n 3, 1) := by decide +kernel
theorem dX4_setWitnesses_61 : decode cX4_setWitnesses 61 = .ok (.aload_n 0, 1) := by decide +kernel
theorem dX4_setWitnesses_62 : decode cX4_setWitnesses 62 = .ok (.getfield 7, 3) := by decide +kernel
theorem dX4_setWitnesses_65 : decode cX4_setWitnesses 65 = .ok (.iload_n 1, 1) := by decide +kernel
theorem dX4_setWitnesses_66 : decode cX4_setWitnesses 66 = .ok (.iconst 3, 1) := by decide +kernel
theorem dX4_setWitnesses_67 : decode cX4_setWitnesses 67 = .ok (.invokestatic 28, 3) := by decide +kernel
theorem dX4_setWitnesses_70 : decode cX4_setWitnesses 70 = .ok (.iload_n 2, 1) := by decide +kernel
theorem dX4_setWitnesses_71 : decode cX4_setWitnesses 71 = .ok (.iastore, 1) := by decide +kernel
theorem dX4_setWitnesses_72 : decode cX4_setWitnesses 72 = .ok (.iload_n 3, 1) := by decide +kernel
theorem dX4_setWitnesses_73 : decode cX4_setWitnesses 73 = .ok (.ireturn, 1) := by decide +kernel
theorem dX4_isWitness_0 : decode cX4_isWitness 0 = .ok (.aload_n 0, 1) := by decide +kernel
theorem dX4_isWitness_1 : decode cX4_isWitness 1 = .ok (.iload_n 2, 1) := by decide +kernel
theorem dX4_isWitness_2 : decode cX4_isWitness 2 = .ok (.iconst 3, 1) := by decide +kernel
theorem dX4_isWitness_3 : decode cX4_isWitness 3 = .ok (.invokevirtual 40, 3) := by decide +kernel
theorem dX4_isWitness_6 : decode cX4_isWitness 6 = .ok (.iload_n 1, 1) := by decide +kernel
theorem dX4_isWitness_7 : decode cX4_isWitness 7 = .ok (.ishr, 1) := by decide +kernel
theorem dX4_isWitness_8 : decode cX4_isWitness 8 = .ok (.iconst 1, 1) := by decide +kernel
theorem dX4_isWitness_9 : decode cX4_isWitness 9 = .ok (.iand, 1) := by decide +kernel
theorem dX4_isWitness_10 : decode cX4_isWitness 10 = .ok (.iconst 1, 1) := by decide +kernel
theorem dX4_isWitness_11 : decode cX4_isWitness 11 = .ok (.if_icmp .ne 7, 3) := by decide +kernel
theorem dX4_isWitness_14 : decode cX4_isWitness 14 = .ok (.iconst 1, 1) := by decide +kernel
theorem dX4_isWitness_15 : decode cX4_isWitness 15 = .ok (.goto 4, 3) := by decide +kernel
theorem dX4_isWitness_18 : decode cX4_isWitness 18 = .ok (.iconst 0, 1) := by decide +kernel
theorem dX4_isWitness_19 : decode cX4_isWitness 19 = .ok (.ireturn, 1) := by decide +kernel
theorem dX4_mismatch_0 : decode cX4_mismatch 0 = .ok (.iconst 0, 1) := by decide +kernel
theorem dX4_mismatch_1 : decode cX4_mismatch 1 = .ok (.istore_n 2, 1) := by decide +kernel
theorem dX4_mismatch_2 : decode cX4_mismatch 2 = .ok (.iload_n 2, 1) := by decide +kernel
theorem dX4_mismatch_3 : decode cX4_mismatch 3 = .ok (.aload_n 0, 1) := by decide +kernel
theorem dX4_mismatch_4 : decode cX4_mismatch 4 = .ok (.invokevirtual 66, 3) := by decide +kernel
theorem dX4_mismatch_7 : decode cX4_mismatch 7 = .ok (.if_icmp .ge 118, 3) := by decide +kernel
theorem dX4_mismatch_10 : decode cX4_mismatch 10 = .ok (.iconst 0, 1) := by decide +kernel
theorem dX4_mismatch_11 : decode cX4_mismatch 11 = .ok (.istore_n 3, 1) := by decide +kernel
theorem dX4_mismatch_12 : decode cX4_mismatch 12 = .ok (.iload_n 3, 1) := by decide +kernel
theorem dX4_mismatch_13 : decode cX4_mismatch 13 = .ok (.aload_n 0, 1) := by decide +kernel
theorem dX4_mismatch_14 : decode cX4_mismatch 14 = .ok (.iload_n 2, 1) := by decide +kernel
theorem dX4_mismatch_15 : decode cX4_mismatch 15 = .ok (.bipush 45, 2) := by decide +kernel
theorem dX4_mismatch_17 : decode cX4_mismatch 17 = .ok (.invokevirtual 40, 3) := by decide +kernel
theorem dX4_mismatch_20 : decode cX4_mismatch 20 = .ok (.if_icmp .ge 99, 3) := by decide +kernel
theorem dX4_mismatch_23 : decode cX4_mismatch 23 = .ok (.aload_n 0, 1) := by decide +kernel
theorem dX4_mismatch_24 : decode cX4_mismatch 24 = .ok (.iload_n 2, 1) := by decide +kernel
theorem dX4_mismatch_25 : decode cX4_mismatch 25 = .ok (.iconst 1, 1) := by decide +kernel
theorem dX4_mismatch_26 : decode cX4_mismatch 26 = .ok (.invokevirtual 40, 3) := by decide +kernel
theorem dX4_mismatch_29 : decode cX4_mismatch 29 = .ok (.ifCond .ne 90, 3) := by decide +kernel
theorem dX4_mismatch_32 : decode cX4_mismatch 32 = .ok (.aload_n 0, 1) := by decide +kernel
theorem dX4_mismatch_33 : decode cX4_mismatch 33 = .ok (.iload_n 2, 1) := by decide +kernel
theorem dX4_mismatch_34 : decode cX4_mismatch 34 = .ok (.bipush 46, 2) := by decide +kernel
theorem dX4_mismatch_36 : decode cX4_mismatch 36 = .ok (.iconst 3, 1) := by decide +kernel
theorem dX4_mismatch_37 : decode cX4_mismatch 37 = .ok (.iload_n 3, 1) := by decide +kernel
theorem dX4_mismatch_38 : decode cX4_mismatch 38 = .ok (.imul, 1) := by decide +kernel
theorem dX4_mismatch_39 : decode cX4_mismatch 39 = .ok (.iadd, 1) := by decide +kernel
theorem dX4_mismatch_40 : decode cX4_mismatch 40 = .ok (.iconst 1, 1) := by decide +kernel
theorem dX4_mismatch_41 : decode cX4_mismatch 41 = .ok (.iadd, 1) := by decide +kernel
theorem dX4_mismatch_42 : decode cX4_mismatch 42 = .ok (.invokevirtual 40, 3) := by decide +kernel
theorem dX4_mismatch_45 : decode cX4_mismatch 45 = .ok (.istore 4, 2) := by decide +kernel
theorem dX4_mismatch_47 : decode cX4_mismatch 47 = .ok (.aload_n 0, 1) := by decide +kernel
theorem dX4_mismatch_48 : decode cX4_mismatch 48 = .ok (.iload_n 2, 1) := by decide +kernel
theorem dX4_mismatch_49 : decode cX4_mismatch 49 = .ok (.bipush 46, 2) := by decide +kernel
theorem dX4_mismatch_51 : decode cX4_mismatch 51 = .ok (.iconst 3, 1) := by decide +kernel
theorem dX4_mismatch_52 : decode cX4_mismatch 52 = .ok (.iload_n 3, 1) := by decide +kernel
theorem dX4_mismatch_53 : decode cX4_mismatch 53 = .ok (.imul, 1) := by decide +kernel
theorem dX4_mismatch_54 : decode cX4_mismatch 54 = .ok (.iadd, 1) := by decide +kernel
theorem dX4_mismatch_55 : decode cX4_mismatch 55 = .ok (.invokevirtual 40, 3) := by decide +kernel
theorem dX4_mismatch_58 : decode cX4_mismatch 58 = .ok (.iload_n 1, 1) := by decide +kernel
theorem dX4_mismatch_59 : decode cX4_mismatch 59 = .ok (.if_icmp .ne 7, 3) := by decide +kernel
theorem dX4_mismatch_62 : decode cX4_mismatch 62 = .ok (.iconst 1, 1) := by decide +kernel
theorem dX4_mismatch_63 : decode cX4_mismatch 63 = .ok (.goto 4, 3) := by decide +kernel
theorem dX4_mismatch_66 : decode cX4_mismatch 66 = .ok (.iconst 0, 1) := by decide +kernel
theorem dX4_mismatch_67 : decode cX4_mismatch 67 = .ok (.istore 5, 2) := by decide +kernel
theorem dX4_mismatch_69 : decode cX4_mismatch 69 = .ok (.iload 5, 2) := by decide +kernel
theorem dX4_mismatch_71 : decode cX4_mismatch 71 = .ok (.ifCond .eq 42, 3) := by decide +kernel
theorem dX4_mismatch_74 : decode cX4_mismatch 74 = .ok (.iload 4, 2) := by decide +kernel
theorem dX4_mismatch_76 : decode cX4_mismatch 76 = .ok (.aload_n 0, 1) := by decide +kernel
theorem dX4_mismatch_77 : decode cX4_mismatch 77 = .ok (.iload_n 1, 1) := by decide +kernel
theorem dX4_mismatch_78 : decode cX4_mismatch 78 = .ok (.iconst 4, 1) := by decide +kernel
theorem dX4_mismatch_79 : decode cX4_mismatch 79 = .ok (.invokevirtual 40, 3) := by decide +kernel
theorem dX4_mismatch_82 : decode cX4_mismatch 82 = .ok (.if_icmp .ge 28, 3) := by decide +kernel
theorem dX4_mismatch_85 : decode cX4_mismatch 85 = .ok (.aload_n 0, 1) := by decide +kernel
theorem dX4_mismatch_86 : decode cX4_mismatch 86 = .ok (.iload_n 1, 1) := by decide +kernel
theorem dX4_mismatch_87 : decode cX4_mismatch 87 = .ok (.iload 4, 2) := by decide +kernel
theorem dX4_mismatch_89 : decode cX4_mismatch 89 = .ok (.iconst 1, 1) := by decide +kernel
theorem dX4_mismatch_90 : decode cX4_mismatch 90 = .ok (.iadd, 1) := by decide +kernel
theorem dX4_mismatch_91 : decode cX4_mismatch 91 = .ok (.invokevirtual 84, 3) := by decide +kernel
theorem dX4_mismatch_94 : decode cX4_mismatch 94 = .ok (.aload_n 0, 1) := by decide +kernel
theorem dX4_mismatch_95 : decode cX4_mismatch 95 = .ok (.iload_n 2, 1) := by decide +kernel
theorem dX4_mismatch_96 : decode cX4_mismatch 96 = .ok (.bipush 46, 2) := by decide +kernel
theorem dX4_mismatch_98 : decode cX4_mismatch 98 = .ok (.iconst 3, 1) := by decide +kernel
theorem dX4_mismatch_99 : decode cX4_mismatch 99 = .ok (.iload_n 3, 1) := by decide +kernel
theorem dX4_mismatch_100 : decode cX4_mismatch 100 = .ok (.imul, 1) := by decide +kernel
theorem dX4_mismatch_101 : decode cX4_mismatch 101 = .ok (.iadd, 1) := by decide +kernel
theorem dX4_mismatch_102 : decode cX4_mismatch 102 = .ok (.iconst 2, 1) := by decide +kernel
theorem dX4_mismatch_103 : decode cX4_mismatch 103 = .ok (.iadd, 1) := by decide +kernel
theorem dX4_mismatch_104 : decode cX4_mismatch 104 = .ok (.invokevirtual 40, 3) := by decide +kernel
theorem dX4_mismatch_107 : decode cX4_mismatch 107 = .ok (.if_icmp .eq 6, 3) := by decide +kernel
theorem dX4_mismatch_110 : decode cX4_mismatch 110 = .ok (.iload 4, 2) := by decide +kernel
theorem dX4_mismatch_112 : decode cX4_mismatch 112 = .ok (.ireturn, 1) := by decide +kernel
theorem dX4_mismatch_113 : decode cX4_mismatch 113 = .ok (.iinc 3 1, 3) := by decide +kernel
theorem dX4_mismatch_116 : decode cX4_mismatch 116 = .ok (.goto (-104), 3) := by decide +kernel
theorem dX4_mismatch_119 : decode cX4_mismatch 119 = .ok (.iinc 2 1, 3) := by decide +kernel
theorem dX4_mismatch_122 : decode cX4_mismatch 122 = .ok (.goto (-120), 3) := by decide +kernel
theorem dX4_mismatch_125 : decode cX4_mismatch 125 = .ok (.iconst (-1), 1) := by decide +kernel
theorem dX4_mismatch_126 : decode cX4_mismatch 126 = .ok (.ireturn, 1) := by decide +kernel
theorem dX4_replayed_0 : decode cX4_replayed 0 = .ok (.iload_n 1, 1) := by decide +kernel
theorem dX4_replayed_1 : decode cX4_replayed 1 = .ok (.istore_n 2, 1) := by decide +kernel
theorem dX4_replayed_2 : decode cX4_replayed 2 = .ok (.iconst (-1), 1) := by decide +kernel
theorem dX4_replayed_3 : decode cX4_replayed 3 = .ok (.istore_n 3, 1) := by decide +kernel
theorem dX4_replayed_4 : decode cX4_replayed 4 = .ok (.iconst 0, 1) := by decide +kernel
theorem dX4_replayed_5 : decode cX4_replayed 5 = .ok (.istore 4, 2) := by decide +kernel
theorem dX4_replayed_7 : decode cX4_replayed 7 = .ok (.iload 4, 2) := by decide +kernel
theorem dX4_replayed_9 : decode cX4_replayed 9 = .ok (.aload_n 0, 1) := by decide +kernel
theorem dX4_replayed_10 : decode cX4_replayed 10 = .ok (.iload_n 1, 1) := by decide +kernel
theorem dX4_replayed_11 : decode cX4_replayed 11 = .ok (.iconst 4, 1) := by decide +kernel
theorem dX4_replayed_12 : decode cX4_replayed 12 = .ok (.invokevirtual 40, 3) := by decide +kernel
theorem dX4_replayed_15 : decode cX4_replayed 15 = .ok (.if_icmp .ge 87, 3) := by decide +kernel
theorem dX4_replayed_18 : decode cX4_replayed 18 = .ok (.aload_n 0, 1) := by decide +kernel
theorem dX4_replayed_19 : decode cX4_replayed 19 = .ok (.iload_n 1, 1) := by decide +kernel
theorem dX4_replayed_20 : decode cX4_replayed 20 = .ok (.iload 4, 2) := by decide +kernel
theorem dX4_replayed_22 : decode cX4_replayed 22 = .ok (.invokevirtual 43, 3) := by decide +kernel
theorem dX4_replayed_25 : decode cX4_replayed 25 = .ok (.istore 5, 2) := by decide +kernel
theorem dX4_replayed_27 : decode cX4_replayed 27 = .ok (.iload_n 3, 1) := by decide +kernel
theorem dX4_replayed_28 : decode cX4_replayed 28 = .ok (.iconst (-1), 1) := by decide +kernel
theorem dX4_replayed_29 : decode cX4_replayed 29 = .ok (.if_icmp .ne 12, 3) := by decide +kernel
theorem dX4_replayed_32 : decode cX4_replayed 32 = .ok (.iload 5, 2) := by decide +kernel
theorem dX4_replayed_34 : decode cX4_replayed 34 = .ok (.invokestatic 50, 3) := by decide +kernel
theorem dX4_replayed_37 : decode cX4_replayed 37 = .ok (.iconst 2, 1) := by decide +kernel
theorem dX4_replayed_38 : decode cX4_replayed 38 = .ok (.if_icmp .ne 17, 3) := by decide +kernel
theorem dX4_replayed_41 : decode cX4_replayed 41 = .ok (.iload 5, 2) := by decide +kernel
theorem dX4_replayed_43 : decode cX4_replayed 43 = .ok (.iload_n 3, 1) := by decide +kernel
theorem dX4_replayed_44 : decode cX4_replayed 44 = .ok (.if_icmp .eq 6, 3) := by decide +kernel
theorem dX4_replayed_47 : decode cX4_replayed 47 = .ok (.iload 4, 2) := by decide +kernel
theorem dX4_replayed_49 : decode cX4_replayed 49 = .ok (.ireturn, 1) := by decide +kernel
theorem dX4_replayed_50 : decode cX4_replayed 50 = .ok (.iconst (-1), 1) := by decide +kernel
theorem dX4_replayed_51 : decode cX4_replayed 51 = .ok (.istore_n 3, 1) := by decide +kernel
theorem dX4_replayed_52 : decode cX4_replayed 52 = .ok (.goto 44, 3) := by decide +kernel
theorem dX4_replayed_55 : decode cX4_replayed 55 = .ok (.iload_n 2, 1) := by decide +kernel
theorem dX4_replayed_56 : decode cX4_replayed 56 = .ok (.iload 5, 2) := by decide +kernel
theorem dX4_replayed_58 : decode cX4_replayed 58 = .ok (.invokestatic 61, 3) := by decide +kernel
theorem dX4_replayed_61 : decode cX4_replayed 61 = .ok (.iload 5, 2) := by decide +kernel
theorem dX4_replayed_63 : decode cX4_replayed 63 = .ok (.invokestatic 56, 3) := by decide +kernel
theorem dX4_replayed_66 : decode cX4_replayed 66 = .ok (.invokestatic 78, 3) := by decide +kernel
theorem dX4_replayed_69 : decode cX4_replayed 69 = .ok (.istore_n 2, 1) := by decide +kernel
theorem dX4_replayed_70 : decode cX4_replayed 70 = .ok (.iload_n 2, 1) := by decide +kernel
theorem dX4_replayed_71 : decode cX4_replayed 71 = .ok (.iconst 3, 1) := by decide +kernel
theorem dX4_replayed_72 : decode cX4_replayed 72 = .ok (.irem, 1) := by decide +kernel
theorem dX4_replayed_73 : decode cX4_replayed 73 = .ok (.ifCond .ne 21, 3) := by decide +kernel
theorem dX4_replayed_76 : decode cX4_replayed 76 = .ok (.iconst 2, 1) := by decide +kernel
theorem dX4_replayed_77 : decode cX4_replayed 77 = .ok (.aload_n 0, 1) := by decide +kernel
theorem dX4_replayed_78 : decode cX4_replayed 78 = .ok (.iload_n 1, 1) := by decide +kernel
theorem dX4_replayed_79 : decode cX4_replayed 79 = .ok (.iload_n 2, 1) := by decide +kernel
theorem dX4_replayed_80 : decode cX4_replayed 80 = .ok (.invokevirtual 81, 3) := by decide +kernel
theorem dX4_replayed_83 : decode cX4_replayed 83 = .ok (.iload_n 2, 1) := by decide +kernel
theorem dX4_replayed_84 : decode cX4_replayed 84 = .ok (.sipush 1000, 3) := by decide +kernel
theorem dX4_replayed_87 : decode cX4_replayed 87 = .ok (.irem, 1) := by decide +kernel
theorem dX4_replayed_88 : decode cX4_replayed 88 = .ok (.invokestatic 70, 3) := by decide +kernel
theorem dX4_replayed_91 : decode cX4_replayed 91 = .ok (.goto 4, 3) := by decide +kernel
theorem dX4_replayed_94 : decode cX4_replayed 94 = .ok (.iconst (-1), 1) := by decide +kernel
theorem dX4_replayed_95 : decode cX4_replayed 95 = .ok (.istore_n 3, 1) := by decide +kernel
theorem dX4_replayed_96 : decode cX4_replayed 96 = .ok (.iinc 4 1, 3) := by decide +kernel
theorem dX4_replayed_99 : decode cX4_replayed 99 = .ok (.goto (-92), 3) := by decide +kernel
theorem dX4_replayed_102 : decode cX4_replayed 102 = .ok (.iload_n 3, 1) := by decide +kernel
theorem dX4_replayed_103 : decode cX4_replayed 103 = .ok (.iconst (-1), 1) := by decide +kernel
theorem dX4_replayed_104 : decode cX4_replayed 104 = .ok (.if_icmp .ne 7, 3) := by decide +kernel
theorem dX4_replayed_107 : decode cX4_replayed 107 = .ok (.iconst (-1), 1) := by decide +kernel
theorem dX4_replayed_108 : decode cX4_replayed 108 = .ok (.goto 9, 3) := by decide +kernel
theorem dX4_replayed_111 : decode cX4_replayed 111 = .ok (.aload_n 0, 1) := by decide +kernel
theorem dX4_replayed_112 : decode cX4_replayed 112 = .ok (.iload_n 1, 1) := by decide +kernel
theorem dX4_replayed_113 : decode cX4_replayed 113 = .ok (.iconst 4, 1) := by decide +kernel
theorem dX4_replayed_114 : decode cX4_replayed 114 = .ok (.invokevirtual 40, 3) := by decide +kernel
theorem dX4_replayed_117 : decode cX4_replayed 117 = .ok (.ireturn, 1) := by decide +kernel
theorem dX4_proves_0 : decode cX4_proves 0 = .ok (.sipush 2801, 3) := by decide +kernel
theorem dX4_proves_3 : decode cX4_proves 3 = .ok (.iconst 4, 1) := by decide +kernel
theorem dX4_proves_4 : decode cX4_proves 4 = .ok (.aload_n 0, 1) := by decide +kernel
theorem dX4_proves_5 : decode cX4_proves 5 = .ok (.getfield 7, 3) := by decide +kernel
theorem dX4_proves_8 : decode cX4_proves 8 = .ok (.sipush 2800, 3) := by decide +kernel
theorem dX4_proves_11 : decode cX4_proves 11 = .ok (.iaload, 1) := by decide +kernel
theorem dX4_proves_12 : decode cX4_proves 12 = .ok (.imul, 1) := by decide +kernel
theorem dX4_proves_13 : decode cX4_proves 13 = .ok (.iadd, 1) := by decide +kernel
theorem dX4_proves_14 : decode cX4_proves 14 = .ok (.istore 5, 2) := by decide +kernel
theorem dX4_proves_16 : decode cX4_proves 16 = .ok (.aload_n 0, 1) := by decide +kernel
theorem dX4_proves_17 : decode cX4_proves 17 = .ok (.getfield 7, 3) := by decide +kernel
theorem dX4_proves_20 : decode cX4_proves 20 = .ok (.iload 5, 2) := by decide +kernel
theorem dX4_proves_22 : decode cX4_proves 22 = .ok (.iload_n 1, 1) := by decide +kernel
theorem dX4_proves_23 : decode cX4_proves 23 = .ok (.iastore, 1) := by decide +kernel
theorem dX4_proves_24 : decode cX4_proves 24 = .ok (.aload_n 0, 1) := by decide +kernel
theorem dX4_proves_25 : decode cX4_proves 25 = .ok (.getfield 7, 3) := by decide +kernel
theorem dX4_proves_28 : decode cX4_proves 28 = .ok (.iload 5, 2) := by decide +kernel
theorem dX4_proves_30 : decode cX4_proves 30 = .ok (.iconst 1, 1) := by decide +kernel
theorem dX4_proves_31 : decode cX4_proves 31 = .ok (.iadd, 1) := by decide +kernel
theorem dX4_proves_32 : decode cX4_proves 32 = .ok (.iload_n 2, 1) := by decide +kernel
theorem dX4_proves_33 : decode cX4_proves 33 = .ok (.iastore, 1) := by decide +kernel
theorem dX4_proves_34 : decode cX4_proves 34 = .ok (.aload_n 0, 1) := by decide +kernel
theorem dX4_proves_35 : decode cX4_proves 35 = .ok (.getfield 7, 3) := by decide +kernel
theorem dX4_proves_38 : decode cX4_proves 38 = .ok (.iload 5, 2) := by decide +kernel
theorem dX4_proves_40 : decode cX4_proves 40 = .ok (.iconst 2, 1) := by decide +kernel
theorem dX4_proves_41 : decode cX4_proves 41 = .ok (.iadd, 1) := by decide +kernel
theorem dX4_proves_42 : decode cX4_proves 42 = .ok (.iload_n 3, 1) := by decide +kernel
theorem dX4_proves_43 : decode cX4_proves 43 = .ok (.iastore, 1) := by decide +kernel
theorem dX4_proves_44 : decode cX4_proves 44 = .ok (.aload_n 0, 1) := by decide +kernel
theorem dX4_proves_45 : decode cX4_proves 45 = .ok (.getfield 7, 3) := by decide +kernel
theorem dX4_proves_48 : decode cX4_proves 48 = .ok (.iload 5, 2) := by decide +kernel
theorem dX4_proves_50 : decode cX4_proves 50 = .ok (.iconst 3, 1) := by decide +kernel
theorem dX4_proves_51 : decode cX4_proves 51 = .ok (.iadd, 1) := by decide +kernel
theorem dX4_proves_52 : decode cX4_proves 52 = .ok (.iload 4, 2) := by decide +kernel
theorem dX4_proves_54 : decode cX4_proves 54 = .ok (.iastore, 1) := by decide +kernel
theorem dX4_proves_55 : decode cX4_proves 55 = .ok (.aload_n 0, 1) := by decide +kernel
theorem dX4_proves_56 : decode cX4_proves 56 = .ok (.getfield 7, 3) := by decide +kernel
theorem dX4_proves_59 : decode cX4_proves 59 = .ok (.sipush 2800, 3) := by decide +kernel
theorem dX4_proves_62 : decode cX4_proves 62 = .ok (.dup2, 1) := by decide +kernel
theorem dX4_proves_63 : decode cX4_proves 63 = .ok (.iaload, 1) := by decide +kernel
theorem dX4_proves_64 : decode cX4_proves 64 = .ok (.iconst 1, 1) := by decide +kernel
theorem dX4_proves_65 : decode cX4_proves 65 = .ok (.iadd, 1) := by decide +kernel
theorem dX4_proves_66 : decode cX4_proves 66 = .ok (.iastore, 1) := by decide +kernel
theorem dX4_proves_67 : decode cX4_proves 67 = .ok (.return_, 1) := by decide +kernel
theorem dX4_exposes_0 : decode cX4_exposes 0 = .ok (.aload_n 0, 1) := by decide +kernel
theorem dX4_exposes_1 : decode cX4_exposes 1 = .ok (.iload_n 1, 1) := by decide +kernel
theorem dX4_exposes_2 : decode cX4_exposes 2 = .ok (.iload_n 2, 1) := by decide +kernel
theorem dX4_exposes_3 : decode cX4_exposes 3 = .ok (.iload_n 3, 1) := by decide +kernel
theorem dX4_exposes_4 : decode cX4_exposes 4 = .ok (.iload 4, 2) := by decide +kernel
theorem dX4_exposes_6 : decode cX4_exposes 6 = .ok (.invokevirtual 118, 3) := by decide +kernel
theorem dX4_exposes_9 : decode cX4_exposes 9 = .ok (.iconst 2, 1) := by decide +kernel
theorem dX4_exposes_10 : decode cX4_exposes 10 = .ok (.ireturn, 1) := by decide +kernel
theorem dX4_judged_0 : decode cX4_judged 0 = .ok (.aload_n 0, 1) := by decide +kernel
theorem dX4_judged_1 : decode cX4_judged 1 = .ok (.iload_n 2, 1) := by decide +kernel
theorem dX4_judged_2 : decode cX4_judged 2 = .ok (.sipush 427, 3) := by decide +kernel
theorem dX4_judged_5 : decode cX4_judged 5 = .ok (.iload_n 1, 1) := by decide +kernel
theorem dX4_judged_6 : decode cX4_judged 6 = .ok (.iadd, 1) := by decide +kernel
theorem dX4_judged_7 : decode cX4_judged 7 = .ok (.invokevirtual 40, 3) := by decide +kernel
theorem dX4_judged_10 : decode cX4_judged 10 = .ok (.iconst 2, 1) := by decide +kernel
theorem dX4_judged_11 : decode cX4_judged 11 = .ok (.if_icmp .ne 5, 3) := by decide +kernel
theorem dX4_judged_14 : decode cX4_judged 14 = .ok (.iconst 2, 1) := by decide +kernel
theorem dX4_judged_15 : decode cX4_judged 15 = .ok (.ireturn, 1) := by decide +kernel
theorem dX4_judged_16 : decode cX4_judged 16 = .ok (.aload_n 0, 1) := by decide +kernel
theorem dX4_judged_17 : decode cX4_judged 17 = .ok (.iload_n 2, 1) := by decide +kernel
theorem dX4_judged_18 : decode cX4_judged 18 = .ok (.iconst 1, 1) := by decide +kernel
theorem dX4_judged_19 : decode cX4_judged 19 = .ok (.invokevirtual 40, 3) := by decide +kernel
theorem dX4_judged_22 : decode cX4_judged 22 = .ok (.iconst 1, 1) := by decide +kernel
theorem dX4_judged_23 : decode cX4_judged 23 = .ok (.if_icmp .ne 5, 3) := by decide +kernel
theorem dX4_judged_26 : decode cX4_judged 26 = .ok (.iconst 1, 1) := by decide +kernel
theorem dX4_judged_27 : decode cX4_judged 27 = .ok (.ireturn, 1) := by decide +kernel
theorem dX4_judged_28 : decode cX4_judged 28 = .ok (.aload_n 0, 1) := by decide +kernel
theorem dX4_judged_29 : decode cX4_judged 29 = .ok (.iload_n 2, 1) := by decide +kernel
theorem dX4_judged_30 : decode cX4_judged 30 = .ok (.invokevirtual 121, 3) := by decide +kernel
theorem dX4_judged_33 : decode cX4_judged 33 = .ok (.istore_n 3, 1) := by decide +kernel
theorem dX4_judged_34 : decode cX4_judged 34 = .ok (.iload_n 3, 1) := by decide +kernel
theorem dX4_judged_35 : decode cX4_judged 35 = .ok (.iconst (-1), 1) := by decide +kernel
theorem dX4_judged_36 : decode cX4_judged 36 = .ok (.if_icmp .eq 12, 3) := by decide +kernel
theorem dX4_judged_39 : decode cX4_judged 39 = .ok (.aload_n 0, 1) := by decide +kernel
theorem dX4_judged_40 : decode cX4_judged 40 = .ok (.iconst 0, 1) := by decide +kernel
theorem dX4_judged_41 : decode cX4_judged 41 = .ok (.iload_n 2, 1) := by decide +kernel
theorem dX4_judged_42 : decode cX4_judged 42 = .ok (.iload_n 1, 1) := by decide +kernel
theorem dX4_judged_43 : decode cX4_judged 43 = .ok (.iload_n 3, 1) := by decide +kernel
theorem dX4_judged_44 : decode cX4_judged 44 = .ok (.invokevirtual 124, 3) := by decide +kernel
theorem dX4_judged_47 : decode cX4_judged 47 = .ok (.ireturn, 1) := by decide +kernel
theorem dX4_judged_48 : decode cX4_judged 48 = .ok (.aload_n 0, 1) := by decide +kernel
theorem dX4_judged_49 : decode cX4_judged 49 = .ok (.iload_n 2, 1) := by decide +kernel
theorem dX4_judged_50 : decode cX4_judged 50 = .ok (.invokevirtual 128, 3) := by decide +kernel
theorem dX4_judged_53 : decode cX4_judged 53 = .ok (.istore_n 3, 1) := by decide +kernel
theorem dX4_judged_54 : decode cX4_judged 54 = .ok (.iload_n 3, 1) := by decide +kernel
theorem dX4_judged_55 : decode cX4_judged 55 = .ok (.iconst (-1), 1) := by decide +kernel
theorem dX4_judged_56 : decode cX4_judged 56 = .ok (.if_icmp .eq 12, 3) := by decide +kernel
theorem dX4_judged_59 : decode cX4_judged 59 = .ok (.aload_n 0, 1) := by decide +kernel
theorem dX4_judged_60 : decode cX4_judged 60 = .ok (.iconst 1, 1) := by decide +kernel
theorem dX4_judged_61 : decode cX4_judged 61 = .ok (.iload_n 2, 1) := by decide +kernel
theorem dX4_judged_62 : decode cX4_judged 62 = .ok (.iload_n 1, 1) := by decide +kernel
theorem dX4_judged_63 : decode cX4_judged 63 = .ok (.iload_n 3, 1) := by decide +kernel
theorem dX4_judged_64 : decode cX4_judged 64 = .ok (.invokevirtual 124, 3) := by decide +kernel
theorem dX4_judged_67 : decode cX4_judged 67 = .ok (.ireturn, 1) := by decide +kernel
theorem dX4_judged_68 : decode cX4_judged 68 = .ok (.aload_n 0, 1) := by decide +kernel
theorem dX4_judged_69 : decode cX4_judged 69 = .ok (.iload_n 2, 1) := by decide +kernel
theorem dX4_judged_70 : decode cX4_judged 70 = .ok (.sipush 226, 3) := by decide +kernel
theorem dX4_judged_73 : decode cX4_judged 73 = .ok (.invokevirtual 40, 3) := by decide +kernel
theorem dX4_judged_76 : decode cX4_judged 76 = .ok (.ifCond .le 7, 3) := by decide +kernel
theorem dX4_judged_79 : decode cX4_judged 79 = .ok (.iconst 1, 1) := by decide +kernel
theorem dX4_judged_80 : decode cX4_judged 80 = .ok (.goto 4, 3) := by decide +kernel
theorem dX4_judged_83 : decode cX4_judged 83 = .ok (.iconst 0, 1) := by decide +kernel
theorem dX4_judged_84 : decode cX4_judged 84 = .ok (.ireturn, 1) := by decide +kernel
theorem dX4_audit_0 : decode cX4_audit 0 = .ok (.aload_n 0, 1) := by decide +kernel
theorem dX4_audit_1 : decode cX4_audit 1 = .ok (.aload_n 0, 1) := by decide +kernel
theorem dX4_audit_2 : decode cX4_audit 2 = .ok (.iload_n 1, 1) := by decide +kernel
theorem dX4_audit_3 : decode cX4_audit 3 = .ok (.invokevirtual 104, 3) := by decide +kernel
theorem dX4_audit_6 : decode cX4_audit 6 = .ok (.ifCond .eq 11, 3) := by decide +kernel
theorem dX4_audit_9 : decode cX4_audit 9 = .ok (.aload_n 0, 1) := by decide +kernel
theorem dX4_audit_10 : decode cX4_audit 10 = .ok (.iload_n 2, 1) := by decide +kernel
theorem dX4_audit_11 : decode cX4_audit 11 = .ok (.invokevirtual 104, 3) := by decide +kernel
theorem dX4_audit_14 : decode cX4_audit 14 = .ok (.ifCond .ne 7, 3) := by decide +kernel
theorem dX4_audit_17 : decode cX4_audit 17 = .ok (.iconst 1, 1) := by decide +kernel
theorem dX4_audit_18 : decode cX4_audit 18 = .ok (.goto 17, 3) := by decide +kernel
theorem dX4_audit_21 : decode cX4_audit 21 = .ok (.aload_n 0, 1) := by decide +kernel
theorem dX4_audit_22 : decode cX4_audit 22 = .ok (.iload_n 1, 1) := by decide +kernel
theorem dX4_audit_23 : decode cX4_audit 23 = .ok (.iload_n 2, 1) := by decide +kernel
theorem dX4_audit_24 : decode cX4_audit 24 = .ok (.invokevirtual 131, 3) := by decide +kernel
theorem dX4_audit_27 : decode cX4_audit 27 = .ok (.ifCond .eq 7, 3) := by decide +kernel
theorem dX4_audit_30 : decode cX4_audit 30 = .ok (.iconst 0, 1) := by decide +kernel
theorem dX4_audit_31 : decode cX4_audit 31 = .ok (.goto 4, 3) := by decide +kernel
theorem dX4_audit_34 : decode cX4_audit 34 = .ok (.iconst 2, 1) := by decide +kernel
theorem dX4_audit_35 : decode cX4_audit 35 = .ok (.invokevirtual 35, 3) := by decide +kernel
theorem dX4_audit_38 : decode cX4_audit 38 = .ok (.ifCond .eq 5, 3) := by decide +kernel
theorem dX4_audit_41 : decode cX4_audit 41 = .ok (.iconst 0, 1) := by decide +kernel
theorem dX4_audit_42 : decode cX4_audit 42 = .ok (.ireturn, 1) := by decide +kernel
theorem dX4_audit_43 : decode cX4_audit 43 = .ok (.aload_n 0, 1) := by decide +kernel
theorem dX4_audit_44 : decode cX4_audit 44 = .ok (.invokevirtual 101, 3) := by decide +kernel
theorem dX4_audit_47 : decode cX4_audit 47 = .ok (.aload_n 0, 1) := by decide +kernel
theorem dX4_audit_48 : decode cX4_audit 48 = .ok (.iload_n 1, 1) := by decide +kernel
theorem dX4_audit_49 : decode cX4_audit 49 = .ok (.iload_n 2, 1) := by decide +kernel
theorem dX4_audit_50 : decode cX4_audit 50 = .ok (.invokevirtual 134, 3) := by decide +kernel
theorem dX4_audit_53 : decode cX4_audit 53 = .ok (.istore_n 3, 1) := by decide +kernel
theorem dX4_audit_54 : decode cX4_audit 54 = .ok (.aload_n 0, 1) := by decide +kernel
theorem dX4_audit_55 : decode cX4_audit 55 = .ok (.getfield 7, 3) := by decide +kernel
theorem dX4_audit_58 : decode cX4_audit 58 = .ok (.iload_n 2, 1) := by decide +kernel
theorem dX4_audit_59 : decode cX4_audit 59 = .ok (.sipush 427, 3) := by decide +kernel
theorem dX4_audit_62 : decode cX4_audit 62 = .ok (.iload_n 1, 1) := by decide +kernel
theorem dX4_audit_63 : decode cX4_audit 63 = .ok (.iadd, 1) := by decide +kernel
theorem dX4_audit_64 : decode cX4_audit 64 = .ok (.invokestatic 28, 3) := by decide +kernel
theorem dX4_audit_67 : decode cX4_audit 67 = .ok (.iload_n 3, 1) := by decide +kernel
theorem dX4_audit_68 : decode cX4_audit 68 = .ok (.iastore, 1) := by decide +kernel
theorem dX4_audit_69 : decode cX4_audit 69 = .ok (.iload_n 3, 1) := by decide +kernel
theorem dX4_audit_70 : decode cX4_audit 70 = .ok (.ireturn, 1) := by decide +kernel
theorem dX4_auditAll_0 : decode cX4_auditAll 0 = .ok (.aload_n 0, 1) := by decide +kernel
theorem dX4_auditAll_1 : decode cX4_auditAll 1 = .ok (.iconst 0, 1) := by decide +kernel
theorem dX4_auditAll_2 : decode cX4_auditAll 2 = .ok (.putfield 20, 3) := by decide +kernel
theorem dX4_auditAll_5 : decode cX4_auditAll 5 = .ok (.aload_n 0, 1) := by decide +kernel
theorem dX4_auditAll_6 : decode cX4_auditAll 6 = .ok (.invokevirtual 101, 3) := by decide +kernel
theorem dX4_auditAll_9 : decode cX4_auditAll 9 = .ok (.iconst 0, 1) := by decide +kernel
theorem dX4_auditAll_10 : decode cX4_auditAll 10 = .ok (.istore_n 1, 1) := by decide +kernel
theorem dX4_auditAll_11 : decode cX4_auditAll 11 = .ok (.iconst 0, 1) := by decide +kernel
theorem dX4_auditAll_12 : decode cX4_auditAll 12 = .ok (.istore_n 2, 1) := by decide +kernel
theorem dX4_auditAll_13 : decode cX4_auditAll 13 = .ok (.iload_n 2, 1) := by decide +kernel
theorem dX4_auditAll_14 : decode cX4_auditAll 14 = .ok (.aload_n 0, 1) := by decide +kernel
theorem dX4_auditAll_15 : decode cX4_auditAll 15 = .ok (.invokevirtual 66, 3) := by decide +kernel
theorem dX4_auditAll_18 : decode cX4_auditAll 18 = .ok (.if_icmp .ge 81, 3) := by decide +kernel
theorem dX4_auditAll_21 : decode cX4_auditAll 21 = .ok (.iconst 0, 1) := by decide +kernel
theorem dX4_auditAll_22 : decode cX4_auditAll 22 = .ok (.istore_n 3, 1) := by decide +kernel
theorem dX4_auditAll_23 : decode cX4_auditAll 23 = .ok (.iload_n 3, 1) := by decide +kernel
theorem dX4_auditAll_24 : decode cX4_auditAll 24 = .ok (.aload_n 0, 1) := by decide +kernel
theorem dX4_auditAll_25 : decode cX4_auditAll 25 = .ok (.invokevirtual 66, 3) := by decide +kernel
theorem dX4_auditAll_28 : decode cX4_auditAll 28 = .ok (.if_icmp .ge 65, 3) := by decide +kernel
theorem dX4_auditAll_31 : decode cX4_auditAll 31 = .ok (.aload_n 0, 1) := by decide +kernel
theorem dX4_auditAll_32 : decode cX4_auditAll 32 = .ok (.iload_n 3, 1) := by decide +kernel
theorem dX4_auditAll_33 : decode cX4_auditAll 33 = .ok (.iload_n 2, 1) := by decide +kernel
theorem dX4_auditAll_34 : decode cX4_auditAll 34 = .ok (.invokevirtual 131, 3) := by decide +kernel
theorem dX4_auditAll_37 : decode cX4_auditAll 37 = .ok (.ifCond .eq 50, 3) := by decide +kernel
theorem dX4_auditAll_40 : decode cX4_auditAll 40 = .ok (.aload_n 0, 1) := by decide +kernel
theorem dX4_auditAll_41 : decode cX4_auditAll 41 = .ok (.iload_n 3, 1) := by decide +kernel
theorem dX4_auditAll_42 : decode cX4_auditAll 42 = .ok (.iload_n 2, 1) := by decide +kernel
theorem dX4_auditAll_43 : decode cX4_auditAll 43 = .ok (.invokevirtual 134, 3) := by decide +kernel
theorem dX4_auditAll_46 : decode cX4_auditAll 46 = .ok (.istore 4, 2) := by decide +kernel
theorem dX4_auditAll_48 : decode cX4_auditAll 48 = .ok (.iload_n 1, 1) := by decide +kernel
theorem dX4_auditAll_49 : decode cX4_auditAll 49 = .ok (.iload 4, 2) := by decide +kernel
theorem dX4_auditAll_51 : decode cX4_auditAll 51 = .ok (.aload_n 0, 1) := by decide +kernel
theorem dX4_auditAll_52 : decode cX4_auditAll 52 = .ok (.iload_n 2, 1) := by decide +kernel
theorem dX4_auditAll_53 : decode cX4_auditAll 53 = .ok (.sipush 427, 3) := by decide +kernel
theorem dX4_auditAll_56 : decode cX4_auditAll 56 = .ok (.iload_n 3, 1) := by decide +kernel
theorem dX4_auditAll_57 : decode cX4_auditAll 57 = .ok (.iadd, 1) := by decide +kernel
theorem dX4_auditAll_58 : decode cX4_auditAll 58 = .ok (.invokevirtual 40, 3) := by decide +kernel
theorem dX4_auditAll_61 : decode cX4_auditAll 61 = .ok (.if_icmp .ne 7, 3) := by decide +kernel
theorem dX4_auditAll_64 : decode cX4_auditAll 64 = .ok (.iconst 0, 1) := by decide +kernel
theorem dX4_auditAll_65 : decode cX4_auditAll 65 = .ok (.goto 4, 3) := by decide +kernel
theorem dX4_auditAll_68 : decode cX4_auditAll 68 = .ok (.iconst 1, 1) := by decide +kernel
theorem dX4_auditAll_69 : decode cX4_auditAll 69 = .ok (.iadd, 1) := by decide +kernel
theorem dX4_auditAll_70 : decode cX4_auditAll 70 = .ok (.istore_n 1, 1) := by decide +kernel
theorem dX4_auditAll_71 : decode cX4_auditAll 71 = .ok (.aload_n 0, 1) := by decide +kernel
theorem dX4_auditAll_72 : decode cX4_auditAll 72 = .ok (.getfield 7, 3) := by decide +kernel
theorem dX4_auditAll_75 : decode cX4_auditAll 75 = .ok (.iload_n 2, 1) := by decide +kernel
theorem dX4_auditAll_76 : decode cX4_auditAll 76 = .ok (.sipush 427, 3) := by decide +kernel
theorem dX4_auditAll_79 : decode cX4_auditAll 79 = .ok (.iload_n 3, 1) := by decide +kernel
theorem dX4_auditAll_80 : decode cX4_auditAll 80 = .ok (.iadd, 1) := by decide +kernel
theorem dX4_auditAll_81 : decode cX4_auditAll 81 = .ok (.invokestatic 28, 3) := by decide +kernel
theorem dX4_auditAll_84 : decode cX4_auditAll 84 = .ok (.iload 4, 2) := by decide +kernel
theorem dX4_auditAll_86 : decode cX4_auditAll 86 = .ok (.iastore, 1) := by decide +kernel
theorem dX4_auditAll_87 : decode cX4_auditAll 87 = .ok (.iinc 3 1, 3) := by decide +kernel
theorem dX4_auditAll_90 : decode cX4_auditAll 90 = .ok (.goto (-67), 3) := by decide +kernel
theorem dX4_auditAll_93 : decode cX4_auditAll 93 = .ok (.iinc 2 1, 3) := by decide +kernel
theorem dX4_auditAll_96 : decode cX4_auditAll 96 = .ok (.goto (-83), 3) := by decide +kernel
theorem dX4_auditAll_99 : decode cX4_auditAll 99 = .ok (.iload_n 1, 1) := by decide +kernel
theorem dX4_auditAll_100 : decode cX4_auditAll 100 = .ok (.ireturn, 1) := by decide +kernel
theorem dX4_verdict_0 : decode cX4_verdict 0 = .ok (.aload_n 0, 1) := by decide +kernel
theorem dX4_verdict_1 : decode cX4_verdict 1 = .ok (.aload_n 0, 1) := by decide +kernel
theorem dX4_verdict_2 : decode cX4_verdict 2 = .ok (.iload_n 1, 1) := by decide +kernel
theorem dX4_verdict_3 : decode cX4_verdict 3 = .ok (.invokevirtual 104, 3) := by decide +kernel
theorem dX4_verdict_6 : decode cX4_verdict 6 = .ok (.ifCond .eq 15, 3) := by decide +kernel
theorem dX4_verdict_9 : decode cX4_verdict 9 = .ok (.aload_n 0, 1) := by decide +kernel
theorem dX4_verdict_10 : decode cX4_verdict 10 = .ok (.iload_n 2, 1) := by decide +kernel
theorem dX4_verdict_11 : decode cX4_verdict 11 = .ok (.invokevirtual 104, 3) := by decide +kernel
theorem dX4_verdict_14 : decode cX4_verdict 14 = .ok (.ifCond .eq 7, 3) := by decide +kernel
theorem dX4_verdict_17 : decode cX4_verdict 17 = .ok (.iconst 0, 1) := by decide +kernel
theorem dX4_verdict_18 : decode cX4_verdict 18 = .ok (.goto 4, 3) := by decide +kernel
theorem dX4_verdict_21 : decode cX4_verdict 21 = .ok (.iconst 1, 1) := by decide +kernel
theorem dX4_verdict_22 : decode cX4_verdict 22 = .ok (.invokevirtual 35, 3) := by decide +kernel
theorem dX4_verdict_25 : decode cX4_verdict 25 = .ok (.ifCond .eq 7, 3) := by decide +kernel
theorem dX4_verdict_28 : decode cX4_verdict 28 = .ok (.iconst 0, 1) := by decide +kernel
theorem dX4_verdict_29 : decode cX4_verdict 29 = .ok (.goto 13, 3) := by decide +kernel
theorem dX4_verdict_32 : decode cX4_verdict 32 = .ok (.aload_n 0, 1) := by decide +kernel
theorem dX4_verdict_33 : decode cX4_verdict 33 = .ok (.iload_n 2, 1) := by decide +kernel
theorem dX4_verdict_34 : decode cX4_verdict 34 = .ok (.sipush 427, 3) := by decide +kernel
theorem dX4_verdict_37 : decode cX4_verdict 37 = .ok (.iload_n 1, 1) := by decide +kernel
theorem dX4_verdict_38 : decode cX4_verdict 38 = .ok (.iadd, 1) := by decide +kernel
theorem dX4_verdict_39 : decode cX4_verdict 39 = .ok (.invokevirtual 40, 3) := by decide +kernel
theorem dX4_verdict_42 : decode cX4_verdict 42 = .ok (.ireturn, 1) := by decide +kernel
theorem dX4_verdictMask_0 : decode cX4_verdictMask 0 = .ok (.aload_n 0, 1) := by decide +kernel
theorem dX4_verdictMask_1 : decode cX4_verdictMask 1 = .ok (.iload_n 1, 1) := by decide +kernel
theorem dX4_verdictMask_2 : decode cX4_verdictMask 2 = .ok (.iconst 0, 1) := by decide +kernel
theorem dX4_verdictMask_3 : decode cX4_verdictMask 3 = .ok (.iconst 2, 1) := by decide +kernel
theorem dX4_verdictMask_4 : decode cX4_verdictMask 4 = .ok (.invokestatic 24, 3) := by decide +kernel
theorem dX4_verdictMask_7 : decode cX4_verdictMask 7 = .ok (.ifCond .eq 7, 3) := by decide +kernel
theorem dX4_verdictMask_10 : decode cX4_verdictMask 10 = .ok (.iconst 0, 1) := by decide +kernel
theorem dX4_verdictMask_11 : decode cX4_verdictMask 11 = .ok (.goto 4, 3) := by decide +kernel
theorem dX4_verdictMask_14 : decode cX4_verdictMask 14 = .ok (.iconst 1, 1) := by decide +kernel
theorem dX4_verdictMask_15 : decode cX4_verdictMask 15 = .ok (.invokevirtual 35, 3) := by decide +kernel
theorem dX4_verdictMask_18 : decode cX4_verdictMask 18 = .ok (.ifCond .eq 5, 3) := by decide +kernel
theorem dX4_verdictMask_21 : decode cX4_verdictMask 21 = .ok (.iconst 0, 1) := by decide +kernel
theorem dX4_verdictMask_22 : decode cX4_verdictMask 22 = .ok (.ireturn, 1) := by decide +kernel
theorem dX4_verdictMask_23 : decode cX4_verdictMask 23 = .ok (.iconst 0, 1) := by decide +kernel
theorem dX4_verdictMask_24 : decode cX4_verdictMask 24 = .ok (.istore_n 2, 1) := by decide +kernel
theorem dX4_verdictMask_25 : decode cX4_verdictMask 25 = .ok (.iconst 0, 1) := by decide +kernel
theorem dX4_verdictMask_26 : decode cX4_verdictMask 26 = .ok (.istore_n 3, 1) := by decide +kernel
theorem dX4_verdictMask_27 : decode cX4_verdictMask 27 = .ok (.iload_n 3, 1) := by decide +kernel
theorem dX4_verdictMask_28 : decode cX4_verdictMask 28 = .ok (.aload_n 0, 1) := by decide +kernel
theorem dX4_verdictMask_29 : decode cX4_verdictMask 29 = .ok (.invokevirtual 66, 3) := by decide +kernel
theorem dX4_verdictMask_32 : decode cX4_verdictMask 32 = .ok (.if_icmp .ge 62, 3) := by decide +kernel
theorem dX4_verdictMask_35 : decode cX4_verdictMask 35 = .ok (.iconst 0, 1) := by decide +kernel
theorem dX4_verdictMask_36 : decode cX4_verdictMask 36 = .ok (.istore 4, 2) := by decide +kernel
theorem dX4_verdictMask_38 : decode cX4_verdictMask 38 = .ok (.iload 4, 2) := by decide +kernel
theorem dX4_verdictMask_40 : decode cX4_verdictMask 40 = .ok (.aload_n 0, 1) := by decide +kernel
theorem dX4_verdictMask_41 : decode cX4_verdictMask 41 = .ok (.invokevirtual 66, 3) := by decide +kernel
theorem dX4_verdictMask_44 : decode cX4_verdictMask 44 = .ok (.if_icmp .ge 44, 3) := by decide +kernel
theorem dX4_verdictMask_47 : decode cX4_verdictMask 47 = .ok (.iload_n 2, 1) := by decide +kernel
theorem dX4_verdictMask_48 : decode cX4_verdictMask 48 = .ok (.aload_n 0, 1) := by decide +kernel
theorem dX4_verdictMask_49 : decode cX4_verdictMask 49 = .ok (.iload 4, 2) := by decide +kernel
theorem dX4_verdictMask_51 : decode cX4_verdictMask 51 = .ok (.iload_n 3, 1) := by decide +kernel
theorem dX4_verdictMask_52 : decode cX4_verdictMask 52 = .ok (.invokevirtual 131, 3) := by decide +kernel
theorem dX4_verdictMask_55 : decode cX4_verdictMask 55 = .ok (.ifCond .eq 24, 3) := by decide +kernel
theorem dX4_verdictMask_58 : decode cX4_verdictMask 58 = .ok (.aload_n 0, 1) := by decide +kernel
theorem dX4_verdictMask_59 : decode cX4_verdictMask 59 = .ok (.iload_n 3, 1) := by decide +kernel
theorem dX4_verdictMask_60 : decode cX4_verdictMask 60 = .ok (.sipush 427, 3) := by decide +kernel
theorem dX4_verdictMask_63 : decode cX4_verdictMask 63 = .ok (.iload 4, 2) := by decide +kernel
theorem dX4_verdictMask_65 : decode cX4_verdictMask 65 = .ok (.iadd, 1) := by decide +kernel
theorem dX4_verdictMask_66 : decode cX4_verdictMask 66 = .ok (.invokevirtual 40, 3) := by decide +kernel
theorem dX4_verdictMask_69 : decode cX4_verdictMask 69 = .ok (.iload_n 1, 1) := by decide +kernel
theorem dX4_verdictMask_70 : decode cX4_verdictMask 70 = .ok (.if_icmp .ne 9, 3) := by decide +kernel
theorem dX4_verdictMask_73 : decode cX4_verdictMask 73 = .ok (.iconst 1, 1) := by decide +kernel
theorem dX4_verdictMask_74 : decode cX4_verdictMask 74 = .ok (.iload_n 3, 1) := by decide +kernel
theorem dX4_verdictMask_75 : decode cX4_verdictMask 75 = .ok (.ishl, 1) := by decide +kernel
theorem dX4_verdictMask_76 : decode cX4_verdictMask 76 = .ok (.goto 4, 3) := by decide +kernel
theorem dX4_verdictMask_79 : decode cX4_verdictMask 79 = .ok (.iconst 0, 1) := by decide +kernel
theorem dX4_verdictMask_80 : decode cX4_verdictMask 80 = .ok (.ior, 1) := by decide +kernel
theorem dX4_verdictMask_81 : decode cX4_verdictMask 81 = .ok (.istore_n 2, 1) := by decide +kernel
theorem dX4_verdictMask_82 : decode cX4_verdictMask 82 = .ok (.iinc 4 1, 3) := by decide +kernel
theorem dX4_verdictMask_85 : decode cX4_verdictMask 85 = .ok (.goto (-47), 3) := by decide +kernel
theorem dX4_verdictMask_88 : decode cX4_verdictMask 88 = .ok (.iinc 3 1, 3) := by decide +kernel
theorem dX4_verdictMask_91 : decode cX4_verdictMask 91 = .ok (.goto (-64), 3) := by decide +kernel
theorem dX4_verdictMask_94 : decode cX4_verdictMask 94 = .ok (.iload_n 2, 1) := by decide +kernel
theorem dX4_verdictMask_95 : decode cX4_verdictMask 95 = .ok (.ireturn, 1) := by decide +kernel
theorem dX4_evidenceCount_0 : decode cX4_evidenceCount 0 = .ok (.aload_n 0, 1) := by decide +kernel
theorem dX4_evidenceCount_1 : decode cX4_evidenceCount 1 = .ok (.iconst 0, 1) := by decide +kernel
theorem dX4_evidenceCount_2 : decode cX4_evidenceCount 2 = .ok (.putfield 20, 3) := by decide +kernel
theorem dX4_evidenceCount_5 : decode cX4_evidenceCount 5 = .ok (.aload_n 0, 1) := by decide +kernel
theorem dX4_evidenceCount_6 : decode cX4_evidenceCount 6 = .ok (.getfield 7, 3) := by decide +kernel
theorem dX4_evidenceCount_9 : decode cX4_evidenceCount 9 = .ok (.sipush 2800, 3) := by decide +kernel
theorem dX4_evidenceCount_12 : decode cX4_evidenceCount 12 = .ok (.iaload, 1) := by decide +kernel
theorem dX4_evidenceCount_13 : decode cX4_evidenceCount 13 = .ok (.ireturn, 1) := by decide +kernel
theorem dX4_evidence_0 : decode cX4_evidence 0 = .ok (.aload_n 0, 1) := by decide +kernel
theorem dX4_evidence_1 : decode cX4_evidence 1 = .ok (.iload_n 1, 1) := by decide +kernel
theorem dX4_evidence_2 : decode cX4_evidence 2 = .ok (.iconst 0, 1) := by decide +kernel
theorem dX4_evidence_3 : decode cX4_evidence 3 = .ok (.aload_n 0, 1) := by decide +kernel
theorem dX4_evidence_4 : decode cX4_evidence 4 = .ok (.getfield 7, 3) := by decide +kernel
theorem dX4_evidence_7 : decode cX4_evidence 7 = .ok (.sipush 2800, 3) := by decide +kernel
theorem dX4_evidence_10 : decode cX4_evidence 10 = .ok (.iaload, 1) := by decide +kernel
theorem dX4_evidence_11 : decode cX4_evidence 11 = .ok (.iconst 1, 1) := by decide +kernel
theorem dX4_evidence_12 : decode cX4_evidence 12 = .ok (.isub, 1) := by decide +kernel
theorem dX4_evidence_13 : decode cX4_evidence 13 = .ok (.invokestatic 24, 3) := by decide +kernel
theorem dX4_evidence_16 : decode cX4_evidence 16 = .ok (.ifCond .ne 7, 3) := by decide +kernel
theorem dX4_evidence_19 : decode cX4_evidence 19 = .ok (.iconst 1, 1) := by decide +kernel
theorem dX4_evidence_20 : decode cX4_evidence 20 = .ok (.goto 17, 3) := by decide +kernel
theorem dX4_evidence_23 : decode cX4_evidence 23 = .ok (.iload_n 2, 1) := by decide +kernel
theorem dX4_evidence_24 : decode cX4_evidence 24 = .ok (.iconst 0, 1) := by decide +kernel
theorem dX4_evidence_25 : decode cX4_evidence 25 = .ok (.iconst 3, 1) := by decide +kernel
theorem dX4_evidence_26 : decode cX4_evidence 26 = .ok (.invokestatic 24, 3) := by decide +kernel
theorem dX4_evidence_29 : decode cX4_evidence 29 = .ok (.ifCond .eq 7, 3) := by decide +kernel
theorem dX4_evidence_32 : decode cX4_evidence 32 = .ok (.iconst 0, 1) := by decide +kernel
theorem dX4_evidence_33 : decode cX4_evidence 33 = .ok (.goto 4, 3) := by decide +kernel
theorem dX4_evidence_36 : decode cX4_evidence 36 = .ok (.iconst 2, 1) := by decide +kernel
theorem dX4_evidence_37 : decode cX4_evidence 37 = .ok (.invokevirtual 35, 3) := by decide +kernel
theorem dX4_evidence_40 : decode cX4_evidence 40 = .ok (.ifCond .eq 5, 3) := by decide +kernel
theorem dX4_evidence_43 : decode cX4_evidence 43 = .ok (.iconst 0, 1) := by decide +kernel
theorem dX4_evidence_44 : decode cX4_evidence 44 = .ok (.ireturn, 1) := by decide +kernel
theorem dX4_evidence_45 : decode cX4_evidence 45 = .ok (.aload_n 0, 1) := by decide +kernel
theorem dX4_evidence_46 : decode cX4_evidence 46 = .ok (.getfield 7, 3) := by decide +kernel
theorem dX4_evidence_49 : decode cX4_evidence 49 = .ok (.sipush 2801, 3) := by decide +kernel
theorem dX4_evidence_52 : decode cX4_evidence 52 = .ok (.iconst 4, 1) := by decide +kernel
theorem dX4_evidence_53 : decode cX4_evidence 53 = .ok (.iload_n 1, 1) := by decide +kernel
theorem dX4_evidence_54 : decode cX4_evidence 54 = .ok (.imul, 1) := by decide +kernel
theorem dX4_evidence_55 : decode cX4_evidence 55 = .ok (.iadd, 1) := by decide +kernel
theorem dX4_evidence_56 : decode cX4_evidence 56 = .ok (.iload_n 2, 1) := by decide +kernel
theorem dX4_evidence_57 : decode cX4_evidence 57 = .ok (.iadd, 1) := by decide +kernel
theorem dX4_evidence_58 : decode cX4_evidence 58 = .ok (.iaload, 1) := by decide +kernel
theorem dX4_evidence_59 : decode cX4_evidence 59 = .ok (.ireturn, 1) := by decide +kernel
theorem dX4_mix_0 : decode cX4_mix 0 = .ok (.aload_n 0, 1) := by decide +kernel
theorem dX4_mix_1 : decode cX4_mix 1 = .ok (.ldc2_w 54, 3) := by decide +kernel
theorem dX4_mix_4 : decode cX4_mix 4 = .ok (.aload_n 0, 1) := by decide +kernel
theorem dX4_mix_5 : decode cX4_mix 5 = .ok (.getfield 137, 3) := by decide +kernel
theorem dX4_mix_8 : decode cX4_mix 8 = .ok (.lmul, 1) := by decide +kernel
theorem dX4_mix_9 : decode cX4_mix 9 = .ok (.iload_n 1, 1) := by decide +kernel
theorem dX4_mix_10 : decode cX4_mix 10 = .ok (.i2l, 1) := by decide +kernel
theorem dX4_mix_11 : decode cX4_mix 11 = .ok (.ladd, 1) := by decide +kernel
theorem dX4_mix_12 : decode cX4_mix 12 = .ok (.putfield 137, 3) := by decide +kernel
theorem dX4_mix_15 : decode cX4_mix 15 = .ok (.return_, 1) := by decide +kernel
theorem dX4_mixMachine_0 : decode cX4_mixMachine 0 = .ok (.iconst 0, 1) := by decide +kernel
theorem dX4_mixMachine_1 : decode cX4_mixMachine 1 = .ok (.istore_n 2, 1) := by decide +kernel
theorem dX4_mixMachine_2 : decode cX4_mixMachine 2 = .ok (.iload_n 2, 1) := by decide +kernel
theorem dX4_mixMachine_3 : decode cX4_mixMachine 3 = .ok (.iconst 4, 1) := by decide +kernel
theorem dX4_mixMachine_4 : decode cX4_mixMachine 4 = .ok (.if_icmp .gt 19, 3) := by decide +kernel
theorem dX4_mixMachine_7 : decode cX4_mixMachine 7 = .ok (.aload_n 0, 1) := by decide +kernel
theorem dX4_mixMachine_8 : decode cX4_mixMachine 8 = .ok (.aload_n 0, 1) := by decide +kernel
theorem dX4_mixMachine_9 : decode cX4_mixMachine 9 = .ok (.iload_n 1, 1) := by decide +kernel
theorem dX4_mixMachine_10 : decode cX4_mixMachine 10 = .ok (.iload_n 2, 1) := by decide +kernel
theorem dX4_mixMachine_11 : decode cX4_mixMachine 11 = .ok (.invokevirtual 40, 3) := by decide +kernel
theorem dX4_mixMachine_14 : decode cX4_mixMachine 14 = .ok (.invokevirtual 141, 3) := by decide +kernel
theorem dX4_mixMachine_17 : decode cX4_mixMachine 17 = .ok (.iinc 2 1, 3) := by decide +kernel
theorem dX4_mixMachine_20 : decode cX4_mixMachine 20 = .ok (.goto (-18), 3) := by decide +kernel
theorem dX4_mixMachine_23 : decode cX4_mixMachine 23 = .ok (.iconst 0, 1) := by decide +kernel
theorem dX4_mixMachine_24 : decode cX4_mixMachine 24 = .ok (.istore_n 2, 1) := by decide +kernel
theorem dX4_mixMachine_25 : decode cX4_mixMachine 25 = .ok (.iload_n 2, 1) := by decide +kernel
theorem dX4_mixMachine_26 : decode cX4_mixMachine 26 = .ok (.aload_n 0, 1) := by decide +kernel
theorem dX4_mixMachine_27 : decode cX4_mixMachine 27 = .ok (.iload_n 1, 1) := by decide +kernel
theorem dX4_mixMachine_28 : decode cX4_mixMachine 28 = .ok (.iconst 4, 1) := by decide +kernel
theorem dX4_mixMachine_29 : decode cX4_mixMachine 29 = .ok (.invokevirtual 40, 3) := by decide +kernel
theorem dX4_mixMachine_32 : decode cX4_mixMachine 32 = .ok (.if_icmp .ge 19, 3) := by decide +kernel
theorem dX4_mixMachine_35 : decode cX4_mixMachine 35 = .ok (.aload_n 0, 1) := by decide +kernel
theorem dX4_mixMachine_36 : decode cX4_mixMachine 36 = .ok (.aload_n 0, 1) := by decide +kernel
theorem dX4_mixMachine_37 : decode cX4_mixMachine 37 = .ok (.iload_n 1, 1) := by decide +kernel
theorem dX4_mixMachine_38 : decode cX4_mixMachine 38 = .ok (.iload_n 2, 1) := by decide +kernel
theorem dX4_mixMachine_39 : decode cX4_mixMachine 39 = .ok (.invokevirtual 43, 3) := by decide +kernel
theorem dX4_mixMachine_42 : decode cX4_mixMachine 42 = .ok (.invokevirtual 141, 3) := by decide +kernel
theorem dX4_mixMachine_45 : decode cX4_mixMachine 45 = .ok (.iinc 2 1, 3) := by decide +kernel
theorem dX4_mixMachine_48 : decode cX4_mixMachine 48 = .ok (.goto (-23), 3) := by decide +kernel
theorem dX4_mixMachine_51 : decode cX4_mixMachine 51 = .ok (.aload_n 0, 1) := by decide +kernel
theorem dX4_mixMachine_52 : decode cX4_mixMachine 52 = .ok (.aload_n 0, 1) := by decide +kernel
theorem dX4_mixMachine_53 : decode cX4_mixMachine 53 = .ok (.iload_n 1, 1) := by decide +kernel
theorem dX4_mixMachine_54 : decode cX4_mixMachine 54 = .ok (.aload_n 0, 1) := by decide +kernel
theorem dX4_mixMachine_55 : decode cX4_mixMachine 55 = .ok (.iload_n 1, 1) := by decide +kernel
theorem dX4_mixMachine_56 : decode cX4_mixMachine 56 = .ok (.iconst 4, 1) := by decide +kernel
theorem dX4_mixMachine_57 : decode cX4_mixMachine 57 = .ok (.invokevirtual 40, 3) := by decide +kernel
theorem dX4_mixMachine_60 : decode cX4_mixMachine 60 = .ok (.invokevirtual 84, 3) := by decide +kernel
theorem dX4_mixMachine_63 : decode cX4_mixMachine 63 = .ok (.invokevirtual 141, 3) := by decide +kernel
theorem dX4_mixMachine_66 : decode cX4_mixMachine 66 = .ok (.aload_n 0, 1) := by decide +kernel
theorem dX4_mixMachine_67 : decode cX4_mixMachine 67 = .ok (.aload_n 0, 1) := by decide +kernel
theorem dX4_mixMachine_68 : decode cX4_mixMachine 68 = .ok (.iload_n 1, 1) := by decide +kernel
theorem dX4_mixMachine_69 : decode cX4_mixMachine 69 = .ok (.bipush 45, 2) := by decide +kernel
theorem dX4_mixMachine_71 : decode cX4_mixMachine 71 = .ok (.invokevirtual 40, 3) := by decide +kernel
theorem dX4_mixMachine_74 : decode cX4_mixMachine 74 = .ok (.invokevirtual 141, 3) := by decide +kernel
theorem dX4_mixMachine_77 : decode cX4_mixMachine 77 = .ok (.aload_n 0, 1) := by decide +kernel
theorem dX4_mixMachine_78 : decode cX4_mixMachine 78 = .ok (.aload_n 0, 1) := by decide +kernel
theorem dX4_mixMachine_79 : decode cX4_mixMachine 79 = .ok (.iload_n 1, 1) := by decide +kernel
theorem dX4_mixMachine_80 : decode cX4_mixMachine 80 = .ok (.sipush 226, 3) := by decide +kernel
theorem dX4_mixMachine_83 : decode cX4_mixMachine 83 = .ok (.invokevirtual 40, 3) := by decide +kernel
theorem dX4_mixMachine_86 : decode cX4_mixMachine 86 = .ok (.invokevirtual 141, 3) := by decide +kernel
theorem dX4_mixMachine_89 : decode cX4_mixMachine 89 = .ok (.iconst 0, 1) := by decide +kernel
theorem dX4_mixMachine_90 : decode cX4_mixMachine 90 = .ok (.istore_n 2, 1) := by decide +kernel
theorem dX4_mixMachine_91 : decode cX4_mixMachine 91 = .ok (.iload_n 2, 1) := by decide +kernel
theorem dX4_mixMachine_92 : decode cX4_mixMachine 92 = .ok (.aload_n 0, 1) := by decide +kernel
theorem dX4_mixMachine_93 : decode cX4_mixMachine 93 = .ok (.invokevirtual 66, 3) := by decide +kernel
theorem dX4_mixMachine_96 : decode cX4_mixMachine 96 = .ok (.if_icmp .ge 23, 3) := by decide +kernel
theorem dX4_mixMachine_99 : decode cX4_mixMachine 99 = .ok (.aload_n 0, 1) := by decide +kernel
theorem dX4_mixMachine_100 : decode cX4_mixMachine 100 = .ok (.aload_n 0, 1) := by decide +kernel
theorem dX4_mixMachine_101 : decode cX4_mixMachine 101 = .ok (.iload_n 1, 1) := by decide +kernel
theorem dX4_mixMachine_102 : decode cX4_mixMachine 102 = .ok (.sipush 427, 3) := by decide +kernel
theorem dX4_mixMachine_105 : decode cX4_mixMachine 105 = .ok (.iload_n 2, 1) := by decide +kernel
theorem dX4_mixMachine_106 : decode cX4_mixMachine 106 = .ok (.iadd, 1) := by decide +kernel
theorem dX4_mixMachine_107 : decode cX4_mixMachine 107 = .ok (.invokevirtual 40, 3) := by decide +kernel
theorem dX4_mixMachine_110 : decode cX4_mixMachine 110 = .ok (.invokevirtual 141, 3) := by decide +kernel
theorem dX4_mixMachine_113 : decode cX4_mixMachine 113 = .ok (.iinc 2 1, 3) := by decide +kernel
theorem dX4_mixMachine_116 : decode cX4_mixMachine 116 = .ok (.goto (-25), 3) := by decide +kernel
theorem dX4_mixMachine_119 : decode cX4_mixMachine 119 = .ok (.return_, 1) := by decide +kernel
theorem dX4_digest_0 : decode cX4_digest 0 = .ok (.aload_n 0, 1) := by decide +kernel
theorem dX4_digest_1 : decode cX4_digest 1 = .ok (.iconst 0, 1) := by decide +kernel
theorem dX4_digest_2 : decode cX4_digest 2 = .ok (.putfield 20, 3) := by decide +kernel
theorem dX4_digest_5 : decode cX4_digest 5 = .ok (.aload_n 0, 1) := by decide +kernel
theorem dX4_digest_6 : decode cX4_digest 6 = .ok (.ldc2_w 144, 3) := by decide +kernel
theorem dX4_digest_9 : decode cX4_digest 9 = .ok (.putfield 137, 3) := by decide +kernel
theorem dX4_digest_12 : decode cX4_digest 12 = .ok (.aload_n 0, 1) := by decide +kernel
theorem dX4_digest_13 : decode cX4_digest 13 = .ok (.aload_n 0, 1) := by decide +kernel
theorem dX4_digest_14 : decode cX4_digest 14 = .ok (.getfield 32, 3) := by decide +kernel
theorem dX4_digest_17 : decode cX4_digest 17 = .ok (.invokevirtual 141, 3) := by decide +kernel
theorem dX4_digest_20 : decode cX4_digest 20 = .ok (.aload_n 0, 1) := by decide +kernel
theorem dX4_digest_21 : decode cX4_digest 21 = .ok (.aload_n 0, 1) := by decide +kernel
theorem dX4_digest_22 : decode cX4_digest 22 = .ok (.invokevirtual 66, 3) := by decide +kernel
theorem dX4_digest_25 : decode cX4_digest 25 = .ok (.invokevirtual 141, 3) := by decide +kernel
theorem dX4_digest_28 : decode cX4_digest 28 = .ok (.iconst 0, 1) := by decide +kernel
theorem dX4_digest_29 : decode cX4_digest 29 = .ok (.istore_n 1, 1) := by decide +kernel
theorem dX4_digest_30 : decode cX4_digest 30 = .ok (.iload_n 1, 1) := by decide +kernel
theorem dX4_digest_31 : decode cX4_digest 31 = .ok (.aload_n 0, 1) := by decide +kernel
theorem dX4_digest_32 : decode cX4_digest 32 = .ok (.invokevirtual 66, 3) := by decide +kernel
theorem dX4_digest_35 : decode cX4_digest 35 = .ok (.if_icmp .ge 14, 3) := by decide +kernel
theorem dX4_digest_38 : decode cX4_digest 38 = .ok (.aload_n 0, 1) := by decide +kernel
theorem dX4_digest_39 : decode cX4_digest 39 = .ok (.iload_n 1, 1) := by decide +kernel
theorem dX4_digest_40 : decode cX4_digest 40 = .ok (.invokevirtual 146, 3) := by decide +kernel
theorem dX4_digest_43 : decode cX4_digest 43 = .ok (.iinc 1 1, 3) := by decide +kernel
theorem dX4_digest_46 : decode cX4_digest 46 = .ok (.goto (-16), 3) := by decide +kernel
theorem dX4_digest_49 : decode cX4_digest 49 = .ok (.aload_n 0, 1) := by decide +kernel
theorem dX4_digest_50 : decode cX4_digest 50 = .ok (.aload_n 0, 1) := by decide +kernel
theorem dX4_digest_51 : decode cX4_digest 51 = .ok (.getfield 7, 3) := by decide +kernel
theorem dX4_digest_54 : decode cX4_digest 54 = .ok (.sipush 2599, 3) := by decide +kernel
theorem dX4_digest_57 : decode cX4_digest 57 = .ok (.iaload, 1) := by decide +kernel
theorem dX4_digest_58 : decode cX4_digest 58 = .ok (.invokevirtual 141, 3) := by decide +kernel
theorem dX4_digest_61 : decode cX4_digest 61 = .ok (.iconst 0, 1) := by decide +kernel
theorem dX4_digest_62 : decode cX4_digest 62 = .ok (.istore_n 1, 1) := by decide +kernel
theorem dX4_digest_63 : decode cX4_digest 63 = .ok (.iload_n 1, 1) := by decide +kernel
theorem dX4_digest_64 : decode cX4_digest 64 = .ok (.aload_n 0, 1) := by decide +kernel
theorem dX4_digest_65 : decode cX4_digest 65 = .ok (.getfield 7, 3) := by decide +kernel
theorem dX4_digest_68 : decode cX4_digest 68 = .ok (.sipush 2599, 3) := by decide +kernel
theorem dX4_digest_71 : decode cX4_digest 71 = .ok (.iaload, 1) := by decide +kernel
theorem dX4_digest_72 : decode cX4_digest 72 = .ok (.if_icmp .ge 43, 3) := by decide +kernel
theorem dX4_digest_75 : decode cX4_digest 75 = .ok (.aload_n 0, 1) := by decide +kernel
theorem dX4_digest_76 : decode cX4_digest 76 = .ok (.aload_n 0, 1) := by decide +kernel
theorem dX4_digest_77 : decode cX4_digest 77 = .ok (.getfield 7, 3) := by decide +kernel
theorem dX4_digest_80 : decode cX4_digest 80 = .ok (.sipush 2600, 3) := by decide +kernel
theorem dX4_digest_83 : decode cX4_digest 83 = .ok (.iconst 5, 1) := by decide +kernel
theorem dX4_digest_84 : decode cX4_digest 84 = .ok (.iload_n 1, 1) := by decide +kernel
theorem dX4_digest_85 : decode cX4_digest 85 = .ok (.imul, 1) := by decide +kernel
theorem dX4_digest_86 : decode cX4_digest 86 = .ok (.iadd, 1) := by decide +kernel
theorem dX4_digest_87 : decode cX4_digest 87 = .ok (.iaload, 1) := by decide +kernel
theorem dX4_digest_88 : decode cX4_digest 88 = .ok (.invokevirtual 141, 3) := by decide +kernel
theorem dX4_digest_91 : decode cX4_digest 91 = .ok (.aload_n 0, 1) := by decide +kernel
theorem dX4_digest_92 : decode cX4_digest 92 = .ok (.aload_n 0, 1) := by decide +kernel
theorem dX4_digest_93 : decode cX4_digest 93 = .ok (.getfield 7, 3) := by decide +kernel
theorem dX4_digest_96 : decode cX4_digest 96 = .ok (.sipush 2600, 3) := by decide +kernel
theorem dX4_digest_99 : decode cX4_digest 99 = .ok (.iconst 5, 1) := by decide +kernel
theorem dX4_digest_100 : decode cX4_digest 100 = .ok (.iload_n 1, 1) := by decide +kernel
theorem dX4_digest_101 : decode cX4_digest 101 = .ok (.imul, 1) := by decide +kernel
theorem dX4_digest_102 : decode cX4_digest 102 = .ok (.iadd, 1) := by decide +kernel
theorem dX4_digest_103 : decode cX4_digest 103 = .ok (.iconst 2, 1) := by decide +kernel
theorem dX4_digest_104 : decode cX4_digest 104 = .ok (.iadd, 1) := by decide +kernel
theorem dX4_digest_105 : decode cX4_digest 105 = .ok (.iaload, 1) := by decide +kernel
theorem dX4_digest_106 : decode cX4_digest 106 = .ok (.invokevirtual 141, 3) := by decide +kernel
theorem dX4_digest_109 : decode cX4_digest 109 = .ok (.iinc 1 1, 3) := by decide +kernel
theorem dX4_digest_112 : decode cX4_digest 112 = .ok (.goto (-49), 3) := by decide +kernel
theorem dX4_digest_115 : decode cX4_digest 115 = .ok (.aload_n 0, 1) := by decide +kernel
theorem dX4_digest_116 : decode cX4_digest 116 = .ok (.aload_n 0, 1) := by decide +kernel
theorem dX4_digest_117 : decode cX4_digest 117 = .ok (.getfield 7, 3) := by decide +kernel
theorem dX4_digest_120 : decode cX4_digest 120 = .ok (.sipush 2800, 3) := by decide +kernel
theorem dX4_digest_123 : decode cX4_digest 123 = .ok (.iaload, 1) := by decide +kernel
theorem dX4_digest_124 : decode cX4_digest 124 = .ok (.invokevirtual 141, 3) := by decide +kernel
theorem dX4_digest_127 : decode cX4_digest 127 = .ok (.iconst 0, 1) := by decide +kernel
theorem dX4_digest_128 : decode cX4_digest 128 = .ok (.istore_n 1, 1) := by decide +kernel
theorem dX4_digest_129 : decode cX4_digest 129 = .ok (.iload_n 1, 1) := by decide +kernel
theorem dX4_digest_130 : decode cX4_digest 130 = .ok (.iconst 4, 1) := by decide +kernel
theorem dX4_digest_131 : decode cX4_digest 131 = .ok (.aload_n 0, 1) := by decide +kernel
theorem dX4_digest_132 : decode cX4_digest 132 = .ok (.getfield 7, 3) := by decide +kernel
theorem dX4_digest_135 : decode cX4_digest 135 = .ok (.sipush 2800, 3) := by decide +kernel
theorem dX4_digest_138 : decode cX4_digest 138 = .ok (.iaload, 1) := by decide +kernel
theorem dX4_digest_139 : decode cX4_digest 139 = .ok (.imul, 1) := by decide +kernel
theorem dX4_digest_140 : decode cX4_digest 140 = .ok (.if_icmp .ge 23, 3) := by decide +kernel
theorem dX4_digest_143 : decode cX4_digest 143 = .ok (.aload_n 0, 1) := by decide +kernel
theorem dX4_digest_144 : decode cX4_digest 144 = .ok (.aload_n 0, 1) := by decide +kernel
theorem dX4_digest_145 : decode cX4_digest 145 = .ok (.getfield 7, 3) := by decide +kernel
theorem dX4_digest_148 : decode cX4_digest 148 = .ok (.sipush 2801, 3) := by decide +kernel
theorem dX4_digest_151 : decode cX4_digest 151 = .ok (.iload_n 1, 1) := by decide +kernel
theorem dX4_digest_152 : decode cX4_digest 152 = .ok (.iadd, 1) := by decide +kernel
theorem dX4_digest_153 : decode cX4_digest 153 = .ok (.iaload, 1) := by decide +kernel
theorem dX4_digest_154 : decode cX4_digest 154 = .ok (.invokevirtual 141, 3) := by decide +kernel
theorem dX4_digest_157 : decode cX4_digest 157 = .ok (.iinc 1 1, 3) := by decide +kernel
theorem dX4_digest_160 : decode cX4_digest 160 = .ok (.goto (-31), 3) := by decide +kernel
theorem dX4_digest_163 : decode cX4_digest 163 = .ok (.aload_n 0, 1) := by decide +kernel
theorem dX4_digest_164 : decode cX4_digest 164 = .ok (.getfield 137, 3) := by decide +kernel
theorem dX4_digest_167 : decode cX4_digest 167 = .ok (.lreturn, 1) := by decide +kernel
end
section
theorem dL_reset_0 : decode cL_reset 0 = .ok (.aload_n 2, 1) := by decide +kernel
theorem dL_reset_1 : decode cL_reset 1 = .ok (.iconst 0, 1) := by decide +kernel
theorem dL_reset_2 : decode cL_reset 2 = .ok (.aload_n 0, 1) := by decide +kernel
theorem dL_reset_3 : decode cL_reset 3 = .ok (.iload_n 1, 1) := by decide +kernel
theorem dL_reset_4 : decode cL_reset 4 = .ok (.invokevirtual 7, 3) := by decide +kernel
theorem dL_reset_7 : decode cL_reset 7 = .ok (.i2l, 1) := by decide +kernel
theorem dL_reset_8 : decode cL_reset 8 = .ok (.lastore, 1) := by decide +kernel
theorem dL_reset_9 : decode cL_reset 9 = .ok (.goto 6, 3) := by decide +kernel
theorem dL_reset_12 : decode cL_reset 12 = .ok (.astore_n 3, 1) := by decide +kernel
theorem dL_reset_13 : decode cL_reset 13 = .ok (.iconst 1, 1) := by decide +kernel
theorem dL_reset_14 : decode cL_reset 14 = .ok (.ireturn, 1) := by decide +kernel
theorem dL_reset_15 : decode cL_reset 15 = .ok (.iconst 0, 1) := by decide +kernel
theorem dL_reset_16 : decode cL_reset 16 = .ok (.ireturn, 1) := by decide +kernel
theorem dL_input_0 : decode cL_input 0 = .ok (.aload_n 3, 1) := by decide +kernel
theorem dL_input_1 : decode cL_input 1 = .ok (.iconst 0, 1) := by decide +kernel
theorem dL_input_2 : decode cL_input 2 = .ok (.aload_n 0, 1) := by decide +kernel
theorem dL_input_3 : decode cL_input 3 = .ok (.iload_n 1, 1) := by decide +kernel
theorem dL_input_4 : decode cL_input 4 = .ok (.iload_n 2, 1) := by decide +kernel
theorem dL_input_5 : decode cL_input 5 = .ok (.invokevirtual 15, 3) := by decide +kernel
theorem dL_input_8 : decode cL_input 8 = .ok (.i2l, 1) := by decide +kernel
theorem dL_input_9 : decode cL_input 9 = .ok (.lastore, 1) := by decide +kernel
theorem dL_input_10 : decode cL_input 10 = .ok (.goto 15, 3) := by decide +kernel
theorem dL_input_13 : decode cL_input 13 = .ok (.astore 4, 2) := by decide +kernel
theorem dL_input_15 : decode cL_input 15 = .ok (.iconst 1, 1) := by decide +kernel
theorem dL_input_16 : decode cL_input 16 = .ok (.ireturn, 1) := by decide +kernel
theorem dL_input_17 : decode cL_input 17 = .ok (.astore 4, 2) := by decide +kernel
theorem dL_input_19 : decode cL_input 19 = .ok (.iconst 2, 1) := by decide +kernel
theorem dL_input_20 : decode cL_input 20 = .ok (.ireturn, 1) := by decide +kernel
theorem dL_input_21 : decode cL_input 21 = .ok (.astore 4, 2) := by decide +kernel
theorem dL_input_23 : decode cL_input 23 = .ok (.iconst 3, 1) := by decide +kernel
theorem dL_input_24 : decode cL_input 24 = .ok (.ireturn, 1) := by decide +kernel
theorem dL_input_25 : decode cL_input 25 = .ok (.iconst 0, 1) := by decide +kernel
theorem dL_input_26 : decode cL_input 26 = .ok (.ireturn, 1) := by decide +kernel
theorem dL_deliver_0 : decode cL_deliver 0 = .ok (.aload_n 1, 1) := by decide +kernel
theorem dL_deliver_1 : decode cL_deliver 1 = .ok (.iconst 0, 1) := by decide +kernel
theorem dL_deliver_2 : decode cL_deliver 2 = .ok (.aload_n 0, 1) := by decide +kernel
theorem dL_deliver_3 : decode cL_deliver 3 = .ok (.invokevirtual 23, 3) := by decide +kernel
theorem dL_deliver_6 : decode cL_deliver 6 = .ok (.i2l, 1) := by decide +kernel
theorem dL_deliver_7 : decode cL_deliver 7 = .ok (.lastore, 1) := by decide +kernel
theorem dL_deliver_8 : decode cL_deliver 8 = .ok (.goto 6, 3) := by decide +kernel
theorem dL_deliver_11 : decode cL_deliver 11 = .ok (.astore_n 2, 1) := by decide +kernel
theorem dL_deliver_12 : decode cL_deliver 12 = .ok (.iconst 1, 1) := by decide +kernel
theorem dL_deliver_13 : decode cL_deliver 13 = .ok (.ireturn, 1) := by decide +kernel
theorem dL_deliver_14 : decode cL_deliver 14 = .ok (.iconst 0, 1) := by decide +kernel
theorem dL_deliver_15 : decode cL_deliver 15 = .ok (.ireturn, 1) := by decide +kernel
theorem dL_run_0 : decode cL_run 0 = .ok (.aload_n 2, 1) := by decide +kernel
theorem dL_run_1 : decode cL_run 1 = .ok (.iconst 0, 1) := by decide +kernel
theorem dL_run_2 : decode cL_run 2 = .ok (.aload_n 0, 1) := by decide +kernel
theorem dL_run_3 : decode cL_run 3 = .ok (.iload_n 1, 1) := by decide +kernel
theorem dL_run_4 : decode cL_run 4 = .ok (.invokevirtual 27, 3) := by decide +kernel
theorem dL_run_7 : decode cL_run 7 = .ok (.i2l, 1) := by decide +kernel
theorem dL_run_8 : decode cL_run 8 = .ok (.lastore, 1) := by decide +kernel
theorem dL_run_9 : decode cL_run 9 = .ok (.goto 6, 3) := by decide +kernel
theorem dL_run_12 : decode cL_run 12 = .ok (.astore_n 3, 1) := by decide +kernel
theorem dL_run_13 : decode cL_run 13 = .ok (.iconst 1, 1) := by decide +kernel
theorem dL_run_14 : decode cL_run 14 = .ok (.ireturn, 1) := by decide +kernel
theorem dL_run_15 : decode cL_run 15 = .ok (.iconst 0, 1) := by decide +kernel
theorem dL_run_16 : decode cL_run 16 = .ok (.ireturn, 1) := by decide +kernel
theorem dL_state_0 : decode cL_state 0 = .ok (.aload_n 2, 1) := by decide +kernel
theorem dL_state_1 : decode cL_state 1 = .ok (.iconst 0, 1) := by decide +kernel
theorem dL_state_2 : decode cL_state 2 = .ok (.aload_n 0, 1) := by decide +kernel
theorem dL_state_3 : decode cL_state 3 = .ok (.iload_n 1, 1) := by decide +kernel
theorem dL_state_4 : decode cL_state 4 = .ok (.invokevirtual 30, 3) := by decide +kernel
theorem dL_state_7 : decode cL_state 7 = .ok (.i2l, 1) := by decide +kernel
theorem dL_state_8 : decode cL_state 8 = .ok (.lastore, 1) := by decide +kernel
theorem dL_state_9 : decode cL_state 9 = .ok (.goto 6, 3) := by decide +kernel
theorem dL_state_12 : decode cL_state 12 = .ok (.astore_n 3, 1) := by decide +kernel
theorem dL_state_13 : decode cL_state 13 = .ok (.iconst 1, 1) := by decide +kernel
theorem dL_state_14 : decode cL_state 14 = .ok (.ireturn, 1) := by decide +kernel
theorem dL_state_15 : decode cL_state 15 = .ok (.iconst 0, 1) := by decide +kernel
theorem dL_state_16 : decode cL_state 16 = .ok (.ireturn, 1) := by decide +kernel
theorem dL_setSilent_0 : decode cL_setSilent 0 = .ok (.aload_n 3, 1) := by decide +kernel
theorem dL_setSilent_1 : decode cL_setSilent 1 = .ok (.iconst 0, 1) := by decide +kernel
theorem dL_setSilent_2 : decode cL_setSilent 2 = .ok (.aload_n 0, 1) := by decide +kernel
theorem dL_setSilent_3 : decode cL_setSilent 3 = .ok (.iload_n 1, 1) := by decide +kernel
theorem dL_setSilent_4 : decode cL_setSilent 4 = .ok (.iload_n 2, 1) := by decide +kernel
theorem dL_setSilent_5 : decode cL_setSilent 5 = .ok (.invokevirtual 33, 3) := by decide +kernel
theorem dL_setSilent_8 : decode cL_setSilent 8 = .ok (.i2l, 1) := by decide +kernel
theorem dL_setSilent_9 : decode cL_setSilent 9 = .ok (.lastore, 1) := by decide +kernel
theorem dL_setSilent_10 : decode cL_setSilent 10 = .ok (.goto 7, 3) := by decide +kernel
theorem dL_setSilent_13 : decode cL_setSilent 13 = .ok (.astore 4, 2) := by decide +kernel
theorem dL_setSilent_15 : decode cL_setSilent 15 = .ok (.iconst 1, 1) := by decide +kernel
theorem dL_setSilent_16 : decode cL_setSilent 16 = .ok (.ireturn, 1) := by decide +kernel
theorem dL_setSilent_17 : decode cL_setSilent 17 = .ok (.iconst 0, 1) := by decide +kernel
theorem dL_setSilent_18 : decode cL_setSilent 18 = .ok (.ireturn, 1) := by decide +kernel
theorem dL_pending_0 : decode cL_pending 0 = .ok (.aload_n 2, 1) := by decide +kernel
theorem dL_pending_1 : decode cL_pending 1 = .ok (.iconst 0, 1) := by decide +kernel
theorem dL_pending_2 : decode cL_pending 2 = .ok (.aload_n 0, 1) := by decide +kernel
theorem dL_pending_3 : decode cL_pending 3 = .ok (.iload_n 1, 1) := by decide +kernel
theorem dL_pending_4 : decode cL_pending 4 = .ok (.invokevirtual 37, 3) := by decide +kernel
theorem dL_pending_7 : decode cL_pending 7 = .ok (.i2l, 1) := by decide +kernel
theorem dL_pending_8 : decode cL_pending 8 = .ok (.lastore, 1) := by decide +kernel
theorem dL_pending_9 : decode cL_pending 9 = .ok (.goto 6, 3) := by decide +kernel
theorem dL_pending_12 : decode cL_pending 12 = .ok (.astore_n 3, 1) := by decide +kernel
theorem dL_pending_13 : decode cL_pending 13 = .ok (.iconst 1, 1) := by decide +kernel
theorem dL_pending_14 : decode cL_pending 14 = .ok (.ireturn, 1) := by decide +kernel
theorem dL_pending_15 : decode cL_pending 15 = .ok (.iconst 0, 1) := by decide +kernel
theorem dL_pending_16 : decode cL_pending 16 = .ok (.ireturn, 1) := by decide +kernel
theorem dL_resend_0 : decode cL_resend 0 = .ok (.aload_n 2, 1) := by decide +kernel
theorem dL_resend_1 : decode cL_resend 1 = .ok (.iconst 0, 1) := by decide +kernel
theorem dL_resend_2 : decode cL_resend 2 = .ok (.aload_n 0, 1) := by decide +kernel
theorem dL_resend_3 : decode cL_resend 3 = .ok (.iload_n 1, 1) := by decide +kernel
theorem dL_resend_4 : decode cL_resend 4 = .ok (.invokevirtual 40, 3) := by decide +kernel
theorem dL_resend_7 : decode cL_resend 7 = .ok (.i2l, 1) := by decide +kernel
theorem dL_resend_8 : decode cL_resend 8 = .ok (.lastore, 1) := by decide +kernel
theorem dL_resend_9 : decode cL_resend 9 = .ok (.goto 9, 3) := by decide +kernel
theorem dL_resend_12 : decode cL_resend 12 = .ok (.astore_n 3, 1) := by decide +kernel
theorem dL_resend_13 : decode cL_resend 13 = .ok (.iconst 1, 1) := by decide +kernel
theorem dL_resend_14 : decode cL_resend 14 = .ok (.ireturn, 1) := by decide +kernel
theorem dL_resend_15 : decode cL_resend 15 = .ok (.astore_n 3, 1) := by decide +kernel
theorem dL_resend_16 : decode cL_resend 16 = .ok (.iconst 2, 1) := by decide +kernel
theorem dL_resend_17 : decode cL_resend 17 = .ok (.ireturn, 1) := by decide +kernel
theorem dL_resend_18 : decode cL_resend 18 = .ok (.iconst 0, 1) := by decide +kernel
theorem dL_resend_19 : decode cL_resend 19 = .ok (.ireturn, 1) := by decide +kernel
theorem dL_lie_0 : decode cL_lie 0 = .ok (.aload_n 2, 1) := by decide +kernel
theorem dL_lie_1 : decode cL_lie 1 = .ok (.iconst 0, 1) := by decide +kernel
theorem dL_lie_2 : decode cL_lie 2 = .ok (.aload_n 0, 1) := by decide +kernel
theorem dL_lie_3 : decode cL_lie 3 = .ok (.iload_n 1, 1) := by decide +kernel
theorem dL_lie_4 : decode cL_lie 4 = .ok (.invokevirtual 43, 3) := by decide +kernel
theorem dL_lie_7 : decode cL_lie 7 = .ok (.ifCond .eq 7, 3) := by decide +kernel
theorem dL_lie_10 : decode cL_lie 10 = .ok (.lconst 1, 1) := by decide +kernel
theorem dL_lie_11 : decode cL_lie 11 = .ok (.goto 4, 3) := by decide +kernel
theorem dL_lie_14 : decode cL_lie 14 = .ok (.lconst 0, 1) := by decide +kernel
theorem dL_lie_15 : decode cL_lie 15 = .ok (.lastore, 1) := by decide +kernel
theorem dL_lie_16 : decode cL_lie 16 = .ok (.goto 6, 3) := by decide +kernel
theorem dL_lie_19 : decode cL_lie 19 = .ok (.astore_n 3, 1) := by decide +kernel
theorem dL_lie_20 : decode cL_lie 20 = .ok (.iconst 1, 1) := by decide +kernel
theorem dL_lie_21 : decode cL_lie 21 = .ok (.ireturn, 1) := by decide +kernel
theorem dL_lie_22 : decode cL_lie 22 = .ok (.iconst 0, 1) := by decide +kernel
theorem dL_lie_23 : decode cL_lie 23 = .ok (.ireturn, 1) := by decide +kernel
theorem dL_tamper_0 : decode cL_tamper 0 = .ok (.aload 4, 2) := by decide +kernel
theorem dL_tamper_2 : decode cL_tamper 2 = .ok (.iconst 0, 1) := by decide +kernel
theorem dL_tamper_3 : decode cL_tamper 3 = .ok (.aload_n 0, 1) := by decide +kernel
theorem dL_tamper_4 : decode cL_tamper 4 = .ok (.iload_n 1, 1) := by decide +kernel
theorem dL_tamper_5 : decode cL_tamper 5 = .ok (.iload_n 2, 1) := by decide +kernel
theorem dL_tamper_6 : decode cL_tamper 6 = .ok (.iload_n 3, 1) := by decide +kernel
theorem dL_tamper_7 : decode cL_tamper 7 = .ok (.invokevirtual 47, 3) := by decide +kernel
theorem dL_tamper_10 : decode cL_tamper 10 = .ok (.i2l, 1) := by decide +kernel
theorem dL_tamper_11 : decode cL_tamper 11 = .ok (.lastore, 1) := by decide +kernel
theorem dL_tamper_12 : decode cL_tamper 12 = .ok (.goto 11, 3) := by decide +kernel
theorem dL_tamper_15 : decode cL_tamper 15 = .ok (.astore 5, 2) := by decide +kernel
theorem dL_tamper_17 : decode cL_tamper 17 = .ok (.iconst 1, 1) := by decide +kernel
theorem dL_tamper_18 : decode cL_tamper 18 = .ok (.ireturn, 1) := by decide +kernel
theorem dL_tamper_19 : decode cL_tamper 19 = .ok (.astore 5, 2) := by decide +kernel
theorem dL_tamper_21 : decode cL_tamper 21 = .ok (.iconst 2, 1) := by decide +kernel
theorem dL_tamper_22 : decode cL_tamper 22 = .ok (.ireturn, 1) := by decide +kernel
theorem dL_tamper_23 : decode cL_tamper 23 = .ok (.iconst 0, 1) := by decide +kernel
theorem dL_tamper_24 : decode cL_tamper 24 = .ok (.ireturn, 1) := by decide +kernel
theorem dL_cut_0 : decode cL_cut 0 = .ok (.aload_n 3, 1) := by decide +kernel
theorem dL_cut_1 : decode cL_cut 1 = .ok (.iconst 0, 1) := by decide +kernel
theorem dL_cut_2 : decode cL_cut 2 = .ok (.aload_n 0, 1) := by decide +kernel
theorem dL_cut_3 : decode cL_cut 3 = .ok (.iload_n 1, 1) := by decide +kernel
theorem dL_cut_4 : decode cL_cut 4 = .ok (.iload_n 2, 1) := by decide +kernel
theorem dL_cut_5 : decode cL_cut 5 = .ok (.invokevirtual 51, 3) := by decide +kernel
theorem dL_cut_8 : decode cL_cut 8 = .ok (.i2l, 1) := by decide +kernel
theorem dL_cut_9 : decode cL_cut 9 = .ok (.lastore, 1) := by decide +kernel
theorem dL_cut_10 : decode cL_cut 10 = .ok (.goto 11, 3) := by decide +kernel
theorem dL_cut_13 : decode cL_cut 13 = .ok (.astore 4, 2) := by decide +kernel
theorem dL_cut_15 : decode cL_cut 15 = .ok (.iconst 1, 1) := by decide +kernel
theorem dL_cut_16 : decode cL_cut 16 = .ok (.ireturn, 1) := by decide +kernel
theorem dL_cut_17 : decode cL_cut 17 = .ok (.astore 4, 2) := by decide +kernel
theorem dL_cut_19 : decode cL_cut 19 = .ok (.iconst 2, 1) := by decide +kernel
theorem dL_cut_20 : decode cL_cut 20 = .ok (.ireturn, 1) := by decide +kernel
theorem dL_cut_21 : decode cL_cut 21 = .ok (.iconst 0, 1) := by decide +kernel
theorem dL_cut_22 : decode cL_cut 22 = .ok (.ireturn, 1) := by decide +kernel
theorem dL_logLength_0 : decode cL_logLength 0 = .ok (.aload_n 2, 1) := by decide +kernel
theorem dL_logLength_1 : decode cL_logLength 1 = .ok (.iconst 0, 1) := by decide +kernel
theorem dL_logLength_2 : decode cL_logLength 2 = .ok (.aload_n 0, 1) := by decide +kernel
theorem dL_logLength_3 : decode cL_logLength 3 = .ok (.iload_n 1, 1) := by decide +kernel
theorem dL_logLength_4 : decode cL_logLength 4 = .ok (.invokevirtual 54, 3) := by decide +kernel
theorem dL_logLength_7 : decode cL_logLength 7 = .ok (.i2l, 1) := by decide +kernel
theorem dL_logLength_8 : decode cL_logLength 8 = .ok (.lastore, 1) := by decide +kernel
theorem dL_logLength_9 : decode cL_logLength 9 = .ok (.goto 6, 3) := by decide +kernel
theorem dL_logLength_12 : decode cL_logLength 12 = .ok (.astore_n 3, 1) := by decide +kernel
theorem dL_logLength_13 : decode cL_logLength 13 = .ok (.iconst 1, 1) := by decide +kernel
theorem dL_logLength_14 : decode cL_logLength 14 = .ok (.ireturn, 1) := by decide +kernel
theorem dL_logLength_15 : decode cL_logLength 15 = .ok (.iconst 0, 1) := by decide +kernel
theorem dL_logLength_16 : decode cL_logLength 16 = .ok (.ireturn, 1) := by decide +kernel
theorem dL_entry_0 : decode cL_entry 0 = .ok (.aload_n 3, 1) := by decide +kernel
theorem dL_entry_1 : decode cL_entry 1 = .ok (.iconst 0, 1) := by decide +kernel
theorem dL_entry_2 : decode cL_entry 2 = .ok (.aload_n 0, 1) := by decide +kernel
theorem dL_entry_3 : decode cL_entry 3 = .ok (.iload_n 1, 1) := by decide +kernel
theorem dL_entry_4 : decode cL_entry 4 = .ok (.iload_n 2, 1) := by decide +kernel
theorem dL_entry_5 : decode cL_entry 5 = .ok (.invokevirtual 57, 3) := by decide +kernel
theorem dL_entry_8 : decode cL_entry 8 = .ok (.i2l, 1) := by decide +kernel
theorem dL_entry_9 : decode cL_entry 9 = .ok (.lastore, 1) := by decide +kernel
theorem dL_entry_10 : decode cL_entry 10 = .ok (.goto 7, 3) := by decide +kernel
theorem dL_entry_13 : decode cL_entry 13 = .ok (.astore 4, 2) := by decide +kernel
theorem dL_entry_15 : decode cL_entry 15 = .ok (.iconst 1, 1) := by decide +kernel
theorem dL_entry_16 : decode cL_entry 16 = .ok (.ireturn, 1) := by decide +kernel
theorem dL_entry_17 : decode cL_entry 17 = .ok (.iconst 0, 1) := by decide +kernel
theorem dL_entry_18 : decode cL_entry 18 = .ok (.ireturn, 1) := by decide +kernel
theorem dL_chain_0 : decode cL_chain 0 = .ok (.aload_n 3, 1) := by decide +kernel
theorem dL_chain_1 : decode cL_chain 1 = .ok (.iconst 0, 1) := by decide +kernel
theorem dL_chain_2 : decode cL_chain 2 = .ok (.aload_n 0, 1) := by decide +kernel
theorem dL_chain_3 : decode cL_chain 3 = .ok (.iload_n 1, 1) := by decide +kernel
theorem dL_chain_4 : decode cL_chain 4 = .ok (.iload_n 2, 1) := by decide +kernel
theorem dL_chain_5 : decode cL_chain 5 = .ok (.invokevirtual 60, 3) := by decide +kernel
theorem dL_chain_8 : decode cL_chain 8 = .ok (.i2l, 1) := by decide +kernel
theorem dL_chain_9 : decode cL_chain 9 = .ok (.lastore, 1) := by decide +kernel
theorem dL_chain_10 : decode cL_chain 10 = .ok (.goto 7, 3) := by decide +kernel
theorem dL_chain_13 : decode cL_chain 13 = .ok (.astore 4, 2) := by decide +kernel
theorem dL_chain_15 : decode cL_chain 15 = .ok (.iconst 1, 1) := by decide +kernel
theorem dL_chain_16 : decode cL_chain 16 = .ok (.ireturn, 1) := by decide +kernel
theorem dL_chain_17 : decode cL_chain 17 = .ok (.iconst 0, 1) := by decide +kernel
theorem dL_chain_18 : decode cL_chain 18 = .ok (.ireturn, 1) := by decide +kernel
theorem dL_held_0 : decode cL_held 0 = .ok (.aload_n 2, 1) := by decide +kernel
theorem dL_held_1 : decode cL_held 1 = .ok (.iconst 0, 1) := by decide +kernel
theorem dL_held_2 : decode cL_held 2 = .ok (.aload_n 0, 1) := by decide +kernel
theorem dL_held_3 : decode cL_held 3 = .ok (.iload_n 1, 1) := by decide +kernel
theorem dL_held_4 : decode cL_held 4 = .ok (.invokevirtual 63, 3) := by decide +kernel
theorem dL_held_7 : decode cL_held 7 = .ok (.i2l, 1) := by decide +kernel
theorem dL_held_8 : decode cL_held 8 = .ok (.lastore, 1) := by decide +kernel
theorem dL_held_9 : decode cL_held 9 = .ok (.goto 6, 3) := by decide +kernel
theorem dL_held_12 : decode cL_held 12 = .ok (.astore_n 3, 1) := by decide +kernel
theorem dL_held_13 : decode cL_held 13 = .ok (.iconst 1, 1) := by decide +kernel
theorem dL_held_14 : decode cL_held 14 = .ok (.ireturn, 1) := by decide +kernel
theorem dL_held_15 : decode cL_held 15 = .ok (.iconst 0, 1) := by decide +kernel
theorem dL_held_16 : decode cL_held 16 = .ok (.ireturn, 1) := by decide +kernel
theorem dL_authenticator_0 : decode cL_authenticator 0 = .ok (.aload 4, 2) := by decide +kernel
theorem dL_authenticator_2 : decode cL_authenticator 2 = .ok (.iconst 0, 1) := by decide +kernel
theorem dL_authenticator_3 : decode cL_authenticator 3 = .ok (.aload_n 0, 1) := by decide +kernel
theorem dL_authenticator_4 : decode cL_authenticator 4 = .ok (.iload_n 1, 1) := by decide +kernel
theorem dL_authenticator_5 : decode cL_authenticator 5 = .ok (.iload_n 2, 1) := by decide +kernel
theorem dL_authenticator_6 : decode cL_authenticator 6 = .ok (.iload_n 3, 1) := by decide +kernel
theorem dL_authenticator_7 : decode cL_authenticator 7 = .ok (.invokevirtual 66, 3) := by decide +kernel
theorem dL_authenticator_10 : decode cL_authenticator 10 = .ok (.i2l, 1) := by decide +kernel
theorem dL_authenticator_11 : decode cL_authenticator 11 = .ok (.lastore, 1) := by decide +kernel
theorem dL_authenticator_12 : decode cL_authenticator 12 = .ok (.goto 11, 3) := by decide +kernel
theorem dL_authenticator_15 : decode cL_authenticator 15 = .ok (.astore 5, 2) := by decide +kernel
theorem dL_authenticator_17 : decode cL_authenticator 17 = .ok (.iconst 1, 1) := by decide +kernel
theorem dL_authenticator_18 : decode cL_authenticator 18 = .ok (.ireturn, 1) := by decide +kernel
theorem dL_authenticator_19 : decode cL_authenticator 19 = .ok (.astore 5, 2) := by decide +kernel
theorem dL_authenticator_21 : decode cL_authenticator 21 = .ok (.iconst 2, 1) := by decide +kernel
theorem dL_authenticator_22 : decode cL_authenticator 22 = .ok (.ireturn, 1) := by decide +kernel
theorem dL_authenticator_23 : decode cL_authenticator 23 = .ok (.iconst 0, 1) := by decide +kernel
theorem dL_authenticator_24 : decode cL_authenticator 24 = .ok (.ireturn, 1) := by decide +kernel
theorem dL_setWitnesses_0 : decode cL_setWitnesses 0 = .ok (.aload_n 3, 1) := by decide +kernel
theorem dL_setWitnesses_1 : decode cL_setWitnesses 1 = .ok (.iconst 0, 1) := by decide +kernel
theorem dL_setWitnesses_2 : decode cL_setWitnesses 2 = .ok (.aload_n 0, 1) := by decide +kernel
theorem dL_setWitnesses_3 : decode cL_setWitnesses 3 = .ok (.iload_n 1, 1) := by decide +kernel
theorem dL_setWitnesses_4 : decode cL_setWitnesses 4 = .ok (.iload_n 2, 1) := by decide +kernel
theorem dL_setWitnesses_5 : decode cL_setWitnesses 5 = .ok (.invokevirtual 69, 3) := by decide +kernel
theorem dL_setWitnesses_8 : decode cL_setWitnesses 8 = .ok (.i2l, 1) := by decide +kernel
theorem dL_setWitnesses_9 : decode cL_setWitnesses 9 = .ok (.lastore, 1) := by decide +kernel
theorem dL_setWitnesses_10 : decode cL_setWitnesses 10 = .ok (.goto 11, 3) := by decide +kernel
theorem dL_setWitnesses_13 : decode cL_setWitnesses 13 = .ok (.astore 4, 2) := by decide +kernel
theorem dL_setWitnesses_15 : decode cL_setWitnesses 15 = .ok (.iconst 1, 1) := by decide +kernel
theorem dL_setWitnesses_16 : decode cL_setWitnesses 16 = .ok (.ireturn, 1) := by decide +kernel
theorem dL_setWitnesses_17 : decode cL_setWitnesses 17 = .ok (.astore 4, 2) := by decide +kernel
theorem dL_setWitnesses_19 : decode cL_setWitnesses 19 = .ok (.iconst 2, 1) := by decide +kernel
theorem dL_setWitnesses_20 : decode cL_setWitnesses 20 = .ok (.ireturn, 1) := by decide +kernel
theorem dL_setWitnesses_21 : decode cL_setWitnesses 21 = .ok (.iconst 0, 1) := by decide +kernel
theorem dL_setWitnesses_22 : decode cL_setWitnesses 22 = .ok (.ireturn, 1) := by decide +kernel
theorem dL_audit_0 : decode cL_audit 0 = .ok (.aload_n 3, 1) := by decide +kernel
theorem dL_audit_1 : decode cL_audit 1 = .ok (.iconst 0, 1) := by decide +kernel
theorem dL_audit_2 : decode cL_audit 2 = .ok (.aload_n 0, 1) := by decide +kernel
theorem dL_audit_3 : decode cL_audit 3 = .ok (.iload_n 1, 1) := by decide +kernel
theorem dL_audit_4 : decode cL_audit 4 = .ok (.iload_n 2, 1) := by decide +kernel
theorem dL_audit_5 : decode cL_audit 5 = .ok (.invokevirtual 72, 3) := by decide +kernel
theorem dL_audit_8 : decode cL_audit 8 = .ok (.i2l, 1) := by decide +kernel
theorem dL_audit_9 : decode cL_audit 9 = .ok (.lastore, 1) := by decide +kernel
theorem dL_audit_10 : decode cL_audit 10 = .ok (.goto 11, 3) := by decide +kernel
theorem dL_audit_13 : decode cL_audit 13 = .ok (.astore 4, 2) := by decide +kernel
theorem dL_audit_15 : decode cL_audit 15 = .ok (.iconst 1, 1) := by decide +kernel
theorem dL_audit_16 : decode cL_audit 16 = .ok (.ireturn, 1) := by decide +kernel
theorem dL_audit_17 : decode cL_audit 17 = .ok (.astore 4, 2) := by decide +kernel
theorem dL_audit_19 : decode cL_audit 19 = .ok (.iconst 2, 1) := by decide +kernel
theorem dL_audit_20 : decode cL_audit 20 = .ok (.ireturn, 1) := by decide +kernel
theorem dL_audit_21 : decode cL_audit 21 = .ok (.iconst 0, 1) := by decide +kernel
theorem dL_audit_22 : decode cL_audit 22 = .ok (.ireturn, 1) := by decide +kernel
theorem dL_verdict_0 : decode cL_verdict 0 = .ok (.aload_n 3, 1) := by decide +kernel
theorem dL_verdict_1 : decode cL_verdict 1 = .ok (.iconst 0, 1) := by decide +kernel
theorem dL_verdict_2 : decode cL_verdict 2 = .ok (.aload_n 0, 1) := by decide +kernel
theorem dL_verdict_3 : decode cL_verdict 3 = .ok (.iload_n 1, 1) := by decide +kernel
theorem dL_verdict_4 : decode cL_verdict 4 = .ok (.iload_n 2, 1) := by decide +kernel
theorem dL_verdict_5 : decode cL_verdict 5 = .ok (.invokevirtual 75, 3) := by decide +kernel
theorem dL_verdict_8 : decode cL_verdict 8 = .ok (.i2l, 1) := by decide +kernel
theorem dL_verdict_9 : decode cL_verdict 9 = .ok (.lastore, 1) := by decide +kernel
theorem dL_verdict_10 : decode cL_verdict 10 = .ok (.goto 7, 3) := by decide +kernel
theorem dL_verdict_13 : decode cL_verdict 13 = .ok (.astore 4, 2) := by decide +kernel
theorem dL_verdict_15 : decode cL_verdict 15 = .ok (.iconst 1, 1) := by decide +kernel
theorem dL_verdict_16 : decode cL_verdict 16 = .ok (.ireturn, 1) := by decide +kernel
theorem dL_verdict_17 : decode cL_verdict 17 = .ok (.iconst 0, 1) := by decide +kernel
theorem dL_verdict_18 : decode cL_verdict 18 = .ok (.ireturn, 1) := by decide +kernel
theorem dL_verdictMask_0 : decode cL_verdictMask 0 = .ok (.aload_n 2, 1) := by decide +kernel
theorem dL_verdictMask_1 : decode cL_verdictMask 1 = .ok (.iconst 0, 1) := by decide +kernel
theorem dL_verdictMask_2 : decode cL_verdictMask 2 = .ok (.aload_n 0, 1) := by decide +kernel
theorem dL_verdictMask_3 : decode cL_verdictMask 3 = .ok (.iload_n 1, 1) := by decide +kernel
theorem dL_verdictMask_4 : decode cL_verdictMask 4 = .ok (.invokevirtual 78, 3) := by decide +kernel
theorem dL_verdictMask_7 : decode cL_verdictMask 7 = .ok (.i2l, 1) := by decide +kernel
theorem dL_verdictMask_8 : decode cL_verdictMask 8 = .ok (.lastore, 1) := by decide +kernel
theorem dL_verdictMask_9 : decode cL_verdictMask 9 = .ok (.goto 6, 3) := by decide +kernel
theorem dL_verdictMask_12 : decode cL_verdictMask 12 = .ok (.astore_n 3, 1) := by decide +kernel
theorem dL_verdictMask_13 : decode cL_verdictMask 13 = .ok (.iconst 1, 1) := by decide +kernel
theorem dL_verdictMask_14 : decode cL_verdictMask 14 = .ok (.ireturn, 1) := by decide +kernel
theorem dL_verdictMask_15 : decode cL_verdictMask 15 = .ok (.iconst 0, 1) := by decide +kernel
theorem dL_verdictMask_16 : decode cL_verdictMask 16 = .ok (.ireturn, 1) := by decide +kernel
theorem dL_evidence_0 : decode cL_evidence 0 = .ok (.aload_n 3, 1) := by decide +kernel
theorem dL_evidence_1 : decode cL_evidence 1 = .ok (.iconst 0, 1) := by decide +kernel
theorem dL_evidence_2 : decode cL_evidence 2 = .ok (.aload_n 0, 1) := by decide +kernel
theorem dL_evidence_3 : decode cL_evidence 3 = .ok (.iload_n 1, 1) := by decide +kernel
theorem dL_evidence_4 : decode cL_evidence 4 = .ok (.iload_n 2, 1) := by decide +kernel
theorem dL_evidence_5 : decode cL_evidence 5 = .ok (.invokevirtual 81, 3) := by decide +kernel
theorem dL_evidence_8 : decode cL_evidence 8 = .ok (.i2l, 1) := by decide +kernel
theorem dL_evidence_9 : decode cL_evidence 9 = .ok (.lastore, 1) := by decide +kernel
theorem dL_evidence_10 : decode cL_evidence 10 = .ok (.goto 11, 3) := by decide +kernel
theorem dL_evidence_13 : decode cL_evidence 13 = .ok (.astore 4, 2) := by decide +kernel
theorem dL_evidence_15 : decode cL_evidence 15 = .ok (.iconst 1, 1) := by decide +kernel
theorem dL_evidence_16 : decode cL_evidence 16 = .ok (.ireturn, 1) := by decide +kernel
theorem dL_evidence_17 : decode cL_evidence 17 = .ok (.astore 4, 2) := by decide +kernel
theorem dL_evidence_19 : decode cL_evidence 19 = .ok (.iconst 2, 1) := by decide +kernel
theorem dL_evidence_20 : decode cL_evidence 20 = .ok (.ireturn, 1) := by decide +kernel
theorem dL_evidence_21 : decode cL_evidence 21 = .ok (.iconst 0, 1) := by decide +kernel
theorem dL_evidence_22 : decode cL_evidence 22 = .ok (.ireturn, 1) := by decide +kernel
theorem dL_undo_0 : decode cL_undo 0 = .ok (.aload_n 1, 1) := by decide +kernel
theorem dL_undo_1 : decode cL_undo 1 = .ok (.iconst 0, 1) := by decide +kernel
theorem dL_undo_2 : decode cL_undo 2 = .ok (.aload_n 0, 1) := by decide +kernel
theorem dL_undo_3 : decode cL_undo 3 = .ok (.invokevirtual 84, 3) := by decide +kernel
theorem dL_undo_6 : decode cL_undo 6 = .ok (.i2l, 1) := by decide +kernel
theorem dL_undo_7 : decode cL_undo 7 = .ok (.lastore, 1) := by decide +kernel
theorem dL_undo_8 : decode cL_undo 8 = .ok (.goto 6, 3) := by decide +kernel
theorem dL_undo_11 : decode cL_undo 11 = .ok (.astore_n 2, 1) := by decide +kernel
theorem dL_undo_12 : decode cL_undo 12 = .ok (.iconst 1, 1) := by decide +kernel
theorem dL_undo_13 : decode cL_undo 13 = .ok (.ireturn, 1) := by decide +kernel
theorem dL_undo_14 : decode cL_undo 14 = .ok (.iconst 0, 1) := by decide +kernel
theorem dL_undo_15 : decode cL_undo 15 = .ok (.ireturn, 1) := by decide +kernel
theorem dL_law_0 : decode cL_law 0 = .ok (.new 8, 3) := by decide +kernel
theorem dL_law_3 : decode cL_law 3 = .ok (.dup, 1) := by decide +kernel
theorem dL_law_4 : decode cL_law 4 = .ok (.invokespecial 87, 3) := by decide +kernel
theorem dL_law_7 : decode cL_law 7 = .ok (.astore_n 1, 1) := by decide +kernel
theorem dL_law_8 : decode cL_law 8 = .ok (.new 88, 3) := by decide +kernel
theorem dL_law_11 : decode cL_law 11 = .ok (.dup, 1) := by decide +kernel
theorem dL_law_12 : decode cL_law 12 = .ok (.invokespecial 90, 3) := by decide +kernel
theorem dL_law_15 : decode cL_law 15 = .ok (.astore_n 2, 1) := by decide +kernel
theorem dL_law_16 : decode cL_law 16 = .ok (.iconst 1, 1) := by decide +kernel
theorem dL_law_17 : decode cL_law 17 = .ok (.newarray .long, 2) := by decide +kernel
theorem dL_law_19 : decode cL_law 19 = .ok (.astore_n 3, 1) := by decide +kernel
theorem dL_law_20 : decode cL_law 20 = .ok (.iconst 0, 1) := by decide +kernel
theorem dL_law_21 : decode cL_law 21 = .ok (.istore 4, 2) := by decide +kernel
theorem dL_law_23 : decode cL_law 23 = .ok (.iload 4, 2) := by decide +kernel
theorem dL_law_25 : decode cL_law 25 = .ok (.aload_n 0, 1) := by decide +kernel
theorem dL_law_26 : decode cL_law 26 = .ok (.arraylength, 1) := by decide +kernel
theorem dL_law_27 : decode cL_law 27 = .ok (.iconst 4, 1) := by decide +kernel
theorem dL_law_28 : decode cL_law 28 = .ok (.isub, 1) := by decide +kernel
theorem dL_law_29 : decode cL_law 29 = .ok (.if_icmp .gt 1573, 3) := by decide +kernel
theorem dL_law_32 : decode cL_law 32 = .ok (.aload_n 0, 1) := by decide +kernel
theorem dL_law_33 : decode cL_law 33 = .ok (.iload 4, 2) := by decide +kernel
theorem dL_law_35 : decode cL_law 35 = .ok (.iaload, 1) := by decide +kernel
theorem dL_law_36 : decode cL_law 36 = .ok (.bipush 31, 2) := by decide +kernel
theorem dL_law_38 : decode cL_law 38 = .ok (.iand, 1) := by decide +kernel
theorem dL_law_39 : decode cL_law 39 = .ok (.tableswitch 1557 0 25 #[117, 173, 241, 285, 341, 354, 410, 494, 550, 606, 669, 749, 817, 873, 941, 1009, 1065, 1145, 1213, 1281, 1294, 1362, 1418, 1431, 1499, 1543], 117) := by decide +kernel
theorem dL_law_156 : decode cL_law 156 = .ok (.aload_n 1, 1) := by decide +kernel
theorem dL_law_157 : decode cL_law 157 = .ok (.aload_n 0, 1) := by decide +kernel
theorem dL_law_158 : decode cL_law 158 = .ok (.iload 4, 2) := by decide +kernel
theorem dL_law_160 : decode cL_law 160 = .ok (.iconst 1, 1) := by decide +kernel
theorem dL_law_161 : decode cL_law 161 = .ok (.iadd, 1) := by decide +kernel
theorem dL_law_162 : decode cL_law 162 = .ok (.iaload, 1) := by decide +kernel
theorem dL_law_163 : decode cL_law 163 = .ok (.aload_n 3, 1) := by decide +kernel
theorem dL_law_164 : decode cL_law 164 = .ok (.invokestatic 91, 3) := by decide +kernel
theorem dL_law_167 : decode cL_law 167 = .ok (.istore 5, 2) := by decide +kernel
theorem dL_law_169 : decode cL_law 169 = .ok (.aload_n 2, 1) := by decide +kernel
theorem dL_law_170 : decode cL_law 170 = .ok (.aload_n 0, 1) := by decide +kernel
theorem dL_law_171 : decode cL_law 171 = .ok (.iload 4, 2) := by decide +kernel
theorem dL_law_173 : decode cL_law 173 = .ok (.iconst 1, 1) := by decide +kernel
theorem dL_law_174 : decode cL_law 174 = .ok (.iadd, 1) := by decide +kernel
theorem dL_law_175 : decode cL_law 175 = .ok (.iaload, 1) := by decide +kernel
theorem dL_law_176 : decode cL_law 176 = .ok (.invokevirtual 96, 3) := by decide +kernel
theorem dL_law_179 : decode cL_law 179 = .ok (.istore 6, 2) := by decide +kernel
theorem dL_law_181 : decode cL_law 181 = .ok (.aload_n 2, 1) := by decide +kernel
theorem dL_law_182 : decode cL_law 182 = .ok (.invokevirtual 97, 3) := by decide +kernel
theorem dL_law_185 : decode cL_law 185 = .ok (.iload 5, 2) := by decide +kernel
theorem dL_law_187 : decode cL_law 187 = .ok (.if_icmp .eq 5, 3) := by decide +kernel
theorem dL_law_190 : decode cL_law 190 = .ok (.iconst 0, 1) := by decide +kernel
theorem dL_law_191 : decode cL_law 191 = .ok (.ireturn, 1) := by decide +kernel
theorem dL_law_192 : decode cL_law 192 = .ok (.iload 5, 2) := by decide +kernel
theorem dL_law_194 : decode cL_law 194 = .ok (.ifCond .ne 15, 3) := by decide +kernel
theorem dL_law_197 : decode cL_law 197 = .ok (.aload_n 3, 1) := by decide +kernel
theorem dL_law_198 : decode cL_law 198 = .ok (.iconst 0, 1) := by decide +kernel
theorem dL_law_199 : decode cL_law 199 = .ok (.laload, 1) := by decide +kernel
theorem dL_law_200 : decode cL_law 200 = .ok (.iload 6, 2) := by decide +kernel
theorem dL_law_202 : decode cL_law 202 = .ok (.i2l, 1) := by decide +kernel
theorem dL_law_203 : decode cL_law 203 = .ok (.lcmp, 1) := by decide +kernel
theorem dL_law_204 : decode cL_law 204 = .ok (.ifCond .eq 5, 3) := by decide +kernel
theorem dL_law_207 : decode cL_law 207 = .ok (.iconst 0, 1) := by decide +kernel
theorem dL_law_208 : decode cL_law 208 = .ok (.ireturn, 1) := by decide +kernel
theorem dL_law_209 : decode cL_law 209 = .ok (.goto 1387, 3) := by decide +kernel
theorem dL_law_212 : decode cL_law 212 = .ok (.aload_n 1, 1) := by decide +kernel
theorem dL_law_213 : decode cL_law 213 = .ok (.aload_n 0, 1) := by decide +kernel
theorem dL_law_214 : decode cL_law 214 = .ok (.iload 4, 2) := by decide +kernel
theorem dL_law_216 : decode cL_law 216 = .ok (.iconst 1, 1) := by decide +kernel
theorem dL_law_217 : decode cL_law 217 = .ok (.iadd, 1) := by decide +kernel
theorem dL_law_218 : decode cL_law 218 = .ok (.iaload, 1) := by decide +kernel
theorem dL_law_219 : decode cL_law 219 = .ok (.aload_n 0, 1) := by decide +kernel
theorem dL_law_220 : decode cL_law 220 = .ok (.iload 4, 2) := by decide +kernel
theorem dL_law_222 : decode cL_law 222 = .ok (.iconst 2, 1) := by decide +kernel
theorem dL_law_223 : decode cL_law 223 = .ok (.iadd, 1) := by decide +kernel
theorem dL_law_224 : decode cL_law 224 = .ok (.iaload, 1) := by decide +kernel
theorem dL_law_225 : decode cL_law 225 = .ok (.aload_n 3, 1) := by decide +kernel
theorem dL_law_226 : decode cL_law 226 = .ok (.invokestatic 100, 3) := by decide +kernel
theorem dL_law_229 : decode cL_law 229 = .ok (.istore 5, 2) := by decide +kernel
theorem dL_law_231 : decode cL_law 231 = .ok (.aload_n 2, 1) := by decide +kernel
theorem dL_law_232 : decode cL_law 232 = .ok (.aload_n 0, 1) := by decide +kernel
theorem dL_law_233 : decode cL_law 233 = .ok (.iload 4, 2) := by decide +kernel
theorem dL_law_235 : decode cL_law 235 = .ok (.iconst 1, 1) := by decide +kernel
theorem dL_law_236 : decode cL_law 236 = .ok (.iadd, 1) := by decide +kernel
theorem dL_law_237 : decode cL_law 237 = .ok (.iaload, 1) := by decide +kernel
theorem dL_law_238 : decode cL_law 238 = .ok (.aload_n 0, 1) := by decide +kernel
theorem dL_law_239 : decode cL_law 239 = .ok (.iload 4, 2) := by decide +kernel
theorem dL_law_241 : decode cL_law 241 = .ok (.iconst 2, 1) := by decide +kernel
theorem dL_law_242 : decode cL_law 242 = .ok (.iadd, 1) := by decide +kernel
theorem dL_law_243 : decode cL_law 243 = .ok (.iaload, 1) := by decide +kernel
theorem dL_law_244 : decode cL_law 244 = .ok (.invokevirtual 103, 3) := by decide +kernel
theorem dL_law_247 : decode cL_law 247 = .ok (.istore 6, 2) := by decide +kernel
theorem dL_law_249 : decode cL_law 249 = .ok (.aload_n 2, 1) := by decide +kernel
theorem dL_law_250 : decode cL_law 250 = .ok (.invokevirtual 97, 3) := by decide +kernel
theorem dL_law_253 : decode cL_law 253 = .ok (.iload 5, 2) := by decide +kernel
theorem dL_law_255 : decode cL_law 255 = .ok (.if_icmp .eq 5, 3) := by decide +kernel
theorem dL_law_258 : decode cL_law 258 = .ok (.iconst 0, 1) := by decide +kernel
theorem dL_law_259 : decode cL_law 259 = .ok (.ireturn, 1) := by decide +kernel
theorem dL_law_260 : decode cL_law 260 = .ok (.iload 5, 2) := by decide +kernel
theorem dL_law_262 : decode cL_law 262 = .ok (.ifCond .ne 15, 3) := by decide +kernel
theorem dL_law_265 : decode cL_law 265 = .ok (.aload_n 3, 1) := by decide +kernel
theorem dL_law_266 : decode cL_law 266 = .ok (.iconst 0, 1) := by decide +kernel
theorem dL_law_267 : decode cL_law 267 = .ok (.laload, 1) := by decide +kernel
theorem dL_law_268 : decode cL_law 268 = .ok (.iload 6, 2) := by decide +kernel
theorem dL_law_270 : decode cL_law 270 = .ok (.i2l, 1) := by decide +kernel
theorem dL_law_271 : decode cL_law 271 = .ok (.lcmp, 1) := by decide +kernel
theorem dL_law_272 : decode cL_law 272 = .ok (.ifCond .eq 5, 3) := by decide +kernel
theorem dL_law_275 : decode cL_law 275 = .ok (.iconst 0, 1) := by decide +kernel
theorem dL_law_276 : decode cL_law 276 = .ok (.ireturn, 1) := by decide +kernel
theorem dL_law_277 : decode cL_law 277 = .ok (.goto 1319, 3) := by decide +kernel
theorem dL_law_280 : decode cL_law 280 = .ok (.aload_n 1, 1) := by decide +kernel
theorem dL_law_281 : decode cL_law 281 = .ok (.aload_n 3, 1) := by decide +kernel
theorem dL_law_282 : decode cL_law 282 = .ok (.invokestatic 104, 3) := by decide +kernel
theorem dL_law_285 : decode cL_law 285 = .ok (.istore 5, 2) := by decide +kernel
theorem dL_law_287 : decode cL_law 287 = .ok (.aload_n 2, 1) := by decide +kernel
theorem dL_law_288 : decode cL_law 288 = .ok (.invokevirtual 107, 3) := by decide +kernel
theorem dL_law_291 : decode cL_law 291 = .ok (.istore 6, 2) := by decide +kernel
theorem dL_law_293 : decode cL_law 293 = .ok (.aload_n 2, 1) := by decide +kernel
theorem dL_law_294 : decode cL_law 294 = .ok (.invokevirtual 97, 3) := by decide +kernel
theorem dL_law_297 : decode cL_law 297 = .ok (.iload 5, 2) := by decide +kernel
theorem dL_law_299 : decode cL_law 299 = .ok (.if_icmp .eq 5, 3) := by decide +kernel
theorem dL_law_302 : decode cL_law 302 = .ok (.iconst 0, 1) := by decide +kernel
theorem dL_law_303 : decode cL_law 303 = .ok (.ireturn, 1) := by decide +kernel
theorem dL_law_304 : decode cL_law 304 = .ok (.iload 5, 2) := by decide +kernel
theorem dL_law_306 : decode cL_law 306 = .ok (.ifCond .ne 15, 3) := by decide +kernel
theorem dL_law_309 : decode cL_law 309 = .ok (.aload_n 3, 1) := by decide +kernel
theorem dL_law_310 : decode cL_law 310 = .ok (.iconst 0, 1) := by decide +kernel
theorem dL_law_311 : decode cL_law 311 = .ok (.laload, 1) := by decide +kernel
theorem dL_law_312 : decode cL_law 312 = .ok (.iload 6, 2) := by decide +kernel
theorem dL_law_314 : decode cL_law 314 = .ok (.i2l, 1) := by decide +kernel
theorem dL_law_315 : decode cL_law 315 = .ok (.lcmp, 1) := by decide +kernel
theorem dL_law_316 : decode cL_law 316 = .ok (.ifCond .eq 5, 3) := by decide +kernel
theorem dL_law_319 : decode cL_law 319 = .ok (.iconst 0, 1) := by decide +kernel
theorem dL_law_320 : decode cL_law 320 = .ok (.ireturn, 1) := by decide +kernel
theorem dL_law_321 : decode cL_law 321 = .ok (.goto 1275, 3) := by decide +kernel
theorem dL_law_324 : decode cL_law 324 = .ok (.aload_n 1, 1) := by decide +kernel
theorem dL_law_325 : decode cL_law 325 = .ok (.aload_n 0, 1) := by decide +kernel
theorem dL_law_326 : decode cL_law 326 = .ok (.iload 4, 2) := by decide +kernel
theorem dL_law_328 : decode cL_law 328 = .ok (.iconst 1, 1) := by decide +kernel
theorem dL_law_329 : decode cL_law 329 = .ok (.iadd, 1) := by decide +kernel
theorem dL_law_330 : decode cL_law 330 = .ok (.iaload, 1) := by decide +kernel
theorem dL_law_331 : decode cL_law 331 = .ok (.aload_n 3, 1) := by decide +kernel
theorem dL_law_332 : decode cL_law 332 = .ok (.invokestatic 108, 3) := by decide +kernel
theorem dL_law_335 : decode cL_law 335 = .ok (.istore 5, 2) := by decide +kernel
theorem dL_law_337 : decode cL_law 337 = .ok (.aload_n 2, 1) := by decide +kernel
theorem dL_law_338 : decode cL_law 338 = .ok (.aload_n 0, 1) := by decide +kernel
theorem dL_law_339 : decode cL_law 339 = .ok (.iload 4, 2) := by decide +kernel
theorem dL_law_341 : decode cL_law 341 = .ok (.iconst 1, 1) := by decide +kernel
theorem dL_law_342 : decode cL_law 342 = .ok (.iadd, 1) := by decide +kernel
theorem dL_law_343 : decode cL_law 343 = .ok (.iaload, 1) := by decide +kernel
theorem dL_law_344 : decode cL_law 344 = .ok (.invokevirtual 110, 3) := by decide +kernel
theorem dL_law_347 : decode cL_law 347 = .ok (.istore 6, 2) := by decide +kernel
theorem dL_law_349 : decode cL_law 349 = .ok (.aload_n 2, 1) := by decide +kernel
theorem dL_law_350 : decode cL_law 350 = .ok (.invokevirtual 97, 3) := by decide +kernel
theorem dL_law_353 : decode cL_law 353 = .ok (.iload 5, 2) := by decide +kernel
theorem dL_law_355 : decode cL_law 355 = .ok (.if_icmp .eq 5, 3) := by decide +kernel
theorem dL_law_358 : decode cL_law 358 = .ok (.iconst 0, 1) := by decide +kernel
theorem dL_law_359 : decode cL_law 359 = .ok (.ireturn, 1) := by decide +kernel
theorem dL_law_360 : decode cL_law 360 = .ok (.iload 5, 2) := by decide +kernel
theorem dL_law_362 : decode cL_law 362 = .ok (.ifCond .ne 15, 3) := by decide +kernel
theorem dL_law_365 : decode cL_law 365 = .ok (.aload_n 3, 1) := by decide +kernel
theorem dL_law_366 : decode cL_law 366 = .ok (.iconst 0, 1) := by decide +kernel
theorem dL_law_367 : decode cL_law 367 = .ok (.laload, 1) := by decide +kernel
theorem dL_law_368 : decode cL_law 368 = .ok (.iload 6, 2) := by decide +kernel
theorem dL_law_370 : decode cL_law 370 = .ok (.i2l, 1) := by decide +kernel
theorem dL_law_371 : decode cL_law 371 = .ok (.lcmp, 1) := by decide +kernel
theorem dL_law_372 : decode cL_law 372 = .ok (.ifCond .eq 5, 3) := by decide +kernel
theorem dL_law_375 : decode cL_law 375 = .ok (.iconst 0, 1) := by decide +kernel
theorem dL_law_376 : decode cL_law 376 = .ok (.ireturn, 1) := by decide +kernel
theorem dL_law_377 : decode cL_law 377 = .ok (.goto 1219, 3) := by decide +kernel
theorem dL_law_380 : decode cL_law 380 = .ok (.aload_n 1, 1) := by decide +kernel
theorem dL_law_381 : decode cL_law 381 = .ok (.invokevirtual 111, 3) := by decide +kernel
theorem dL_law_384 : decode cL_law 384 = .ok (.aload_n 2, 1) := by decide +kernel
theorem dL_law_385 : decode cL_law 385 = .ok (.invokevirtual 114, 3) := by decide +kernel
theorem dL_law_388 : decode cL_law 388 = .ok (.if_icmp .eq 1208, 3) := by decide +kernel
theorem dL_law_391 : decode cL_law 391 = .ok (.iconst 0, 1) := by decide +kernel
theorem dL_law_392 : decode cL_law 392 = .ok (.ireturn, 1) := by decide +kernel
theorem dL_law_393 : decode cL_law 393 = .ok (.aload_n 1, 1) := by decide +kernel
theorem dL_law_394 : decode cL_law 394 = .ok (.aload_n 0, 1) := by decide +kernel
theorem dL_law_395 : decode cL_law 395 = .ok (.iload 4, 2) := by decide +kernel
theorem dL_law_397 : decode cL_law 397 = .ok (.iconst 1, 1) := by decide +kernel
theorem dL_law_398 : decode cL_law 398 = .ok (.iadd, 1) := by decide +kernel
theorem dL_law_399 : decode cL_law 399 = .ok (.iaload, 1) := by decide +kernel
theorem dL_law_400 : decode cL_law 400 = .ok (.aload_n 3, 1) := by decide +kernel
theorem dL_law_401 : decode cL_law 401 = .ok (.invokestatic 115, 3) := by decide +kernel
theorem dL_law_404 : decode cL_law 404 = .ok (.istore 5, 2) := by decide +kernel
theorem dL_law_406 : decode cL_law 406 = .ok (.aload_n 2, 1) := by decide +kernel
theorem dL_law_407 : decode cL_law 407 = .ok (.aload_n 0, 1) := by decide +kernel
theorem dL_law_408 : decode cL_law 408 = .ok (.iload 4, 2) := by decide +kernel
theorem dL_law_410 : decode cL_law 410 = .ok (.iconst 1, 1) := by decide +kernel
theorem dL_law_411 : decode cL_law 411 = .ok (.iadd, 1) := by decide +kernel
theorem dL_law_412 : decode cL_law 412 = .ok (.iaload, 1) := by decide +kernel
theorem dL_law_413 : decode cL_law 413 = .ok (.invokevirtual 117, 3) := by decide +kernel
theorem dL_law_416 : decode cL_law 416 = .ok (.istore 6, 2) := by decide +kernel
theorem dL_law_418 : decode cL_law 418 = .ok (.aload_n 2, 1) := by decide +kernel
theorem dL_law_419 : decode cL_law 419 = .ok (.invokevirtual 97, 3) := by decide +kernel
theorem dL_law_422 : decode cL_law 422 = .ok (.iload 5, 2) := by decide +kernel
theorem dL_law_424 : decode cL_law 424 = .ok (.if_icmp .eq 5, 3) := by decide +kernel
theorem dL_law_427 : decode cL_law 427 = .ok (.iconst 0, 1) := by decide +kernel
theorem dL_law_428 : decode cL_law 428 = .ok (.ireturn, 1) := by decide +kernel
theorem dL_law_429 : decode cL_law 429 = .ok (.iload 5, 2) := by decide +kernel
theorem dL_law_431 : decode cL_law 431 = .ok (.ifCond .ne 15, 3) := by decide +kernel
theorem dL_law_434 : decode cL_law 434 = .ok (.aload_n 3, 1) := by decide +kernel
theorem dL_law_435 : decode cL_law 435 = .ok (.iconst 0, 1) := by decide +kernel
theorem dL_law_436 : decode cL_law 436 = .ok (.laload, 1) := by decide +kernel
theorem dL_law_437 : decode cL_law 437 = .ok (.iload 6, 2) := by decide +kernel
theorem dL_law_439 : decode cL_law 439 = .ok (.i2l, 1) := by decide +kernel
theorem dL_law_440 : decode cL_law 440 = .ok (.lcmp, 1) := by decide +kernel
theorem dL_law_441 : decode cL_law 441 = .ok (.ifCond .eq 5, 3) := by decide +kernel
theorem dL_law_444 : decode cL_law 444 = .ok (.iconst 0, 1) := by decide +kernel
theorem dL_law_445 : decode cL_law 445 = .ok (.ireturn, 1) := by decide +kernel
theorem dL_law_446 : decode cL_law 446 = .ok (.goto 1150, 3) := by decide +kernel
theorem dL_law_449 : decode cL_law 449 = .ok (.aload_n 1, 1) := by decide +kernel
theorem dL_law_450 : decode cL_law 450 = .ok (.aload_n 0, 1) := by decide +kernel
theorem dL_law_451 : decode cL_law 451 = .ok (.iload 4, 2) := by decide +kernel
theorem dL_law_453 : decode cL_law 453 = .ok (.iconst 1, 1) := by decide +kernel
theorem dL_law_454 : decode cL_law 454 = .ok (.iadd, 1) := by decide +kernel
theorem dL_law_455 : decode cL_law 455 = .ok (.iaload, 1) := by decide +kernel
theorem dL_law_456 : decode cL_law 456 = .ok (.aload_n 0, 1) := by decide +kernel
theorem dL_law_457 : decode cL_law 457 = .ok (.iload 4, 2) := by decide +kernel
theorem dL_law_459 : decode cL_law 459 = .ok (.iconst 2, 1) := by decide +kernel
theorem dL_law_460 : decode cL_law 460 = .ok (.iadd, 1) := by decide +kernel
theorem dL_law_461 : decode cL_law 461 = .ok (.iaload, 1) := by decide +kernel
theorem dL_law_462 : decode cL_law 462 = .ok (.ifCond .eq 7, 3) := by decide +kernel
theorem dL_law_465 : decode cL_law 465 = .ok (.iconst 1, 1) := by decide +kernel
theorem dL_law_466 : decode cL_law 466 = .ok (.goto 4, 3) := by decide +kernel
theorem dL_law_469 : decode cL_law 469 = .ok (.iconst 0, 1) := by decide +kernel
theorem dL_law_470 : decode cL_law 470 = .ok (.aload_n 3, 1) := by decide +kernel
theorem dL_law_471 : decode cL_law 471 = .ok (.invokestatic 118, 3) := by decide +kernel
theorem dL_law_474 : decode cL_law 474 = .ok (.istore 5, 2) := by decide +kernel
theorem dL_law_476 : decode cL_law 476 = .ok (.aload_n 2, 1) := by decide +kernel
theorem dL_law_477 : decode cL_law 477 = .ok (.aload_n 0, 1) := by decide +kernel
theorem dL_law_478 : decode cL_law 478 = .ok (.iload 4, 2) := by decide +kernel
theorem dL_law_480 : decode cL_law 480 = .ok (.iconst 1, 1) := by decide +kernel
theorem dL_law_481 : decode cL_law 481 = .ok (.iadd, 1) := by decide +kernel
theorem dL_law_482 : decode cL_law 482 = .ok (.iaload, 1) := by decide +kernel
theorem dL_law_483 : decode cL_law 483 = .ok (.aload_n 0, 1) := by decide +kernel
theorem dL_law_484 : decode cL_law 484 = .ok (.iload 4, 2) := by decide +kernel
theorem dL_law_486 : decode cL_law 486 = .ok (.iconst 2, 1) := by decide +kernel
theorem dL_law_487 : decode cL_law 487 = .ok (.iadd, 1) := by decide +kernel
theorem dL_law_488 : decode cL_law 488 = .ok (.iaload, 1) := by decide +kernel
theorem dL_law_489 : decode cL_law 489 = .ok (.ifCond .eq 7, 3) := by decide +kernel
theorem dL_law_492 : decode cL_law 492 = .ok (.iconst 1, 1) := by decide +kernel
theorem dL_law_493 : decode cL_law 493 = .ok (.goto 4, 3) := by decide +kernel
theorem dL_law_496 : decode cL_law 496 = .ok (.iconst 0, 1) := by decide +kernel
theorem dL_law_497 : decode cL_law 497 = .ok (.invokevirtual 121, 3) := by decide +kernel
theorem dL_law_500 : decode cL_law 500 = .ok (.istore 6, 2) := by decide +kernel
theorem dL_law_502 : decode cL_law 502 = .ok (.aload_n 2, 1) := by decide +kernel
theorem dL_law_503 : decode cL_law 503 = .ok (.invokevirtual 97, 3) := by decide +kernel
theorem dL_law_506 : decode cL_law 506 = .ok (.iload 5, 2) := by decide +kernel
theorem dL_law_508 : decode cL_law 508 = .ok (.if_icmp .eq 5, 3) := by decide +kernel
theorem dL_law_511 : decode cL_law 511 = .ok (.iconst 0, 1) := by decide +kernel
theorem dL_law_512 : decode cL_law 512 = .ok (.ireturn, 1) := by decide +kernel
theorem dL_law_513 : decode cL_law 513 = .ok (.iload 5, 2) := by decide +kernel
theorem dL_law_515 : decode cL_law 515 = .ok (.ifCond .ne 15, 3) := by decide +kernel
theorem dL_law_518 : decode cL_law 518 = .ok (.aload_n 3, 1) := by decide +kernel
theorem dL_law_519 : decode cL_law 519 = .ok (.iconst 0, 1) := by decide +kernel
theorem dL_law_520 : decode cL_law 520 = .ok (.laload, 1) := by decide +kernel
theorem dL_law_521 : decode cL_law 521 = .ok (.iload 6, 2) := by decide +kernel
theorem dL_law_523 : decode cL_law 523 = .ok (.i2l, 1) := by decide +kernel
theorem dL_law_524 : decode cL_law 524 = .ok (.lcmp, 1) := by decide +kernel
theorem dL_law_525 : decode cL_law 525 = .ok (.ifCond .eq 5, 3) := by decide +kernel
theorem dL_law_528 : decode cL_law 528 = .ok (.iconst 0, 1) := by decide +kernel
theorem dL_law_529 : decode cL_law 529 = .ok (.ireturn, 1) := by decide +kernel
theorem dL_law_530 : decode cL_law 530 = .ok (.goto 1066, 3) := by decide +kernel
theorem dL_law_533 : decode cL_law 533 = .ok (.aload_n 1, 1) := by decide +kernel
theorem dL_law_534 : decode cL_law 534 = .ok (.aload_n 0, 1) := by decide +kernel
theorem dL_law_535 : decode cL_law 535 = .ok (.iload 4, 2) := by decide +kernel
theorem dL_law_537 : decode cL_law 537 = .ok (.iconst 1, 1) := by decide +kernel
theorem dL_law_538 : decode cL_law 538 = .ok (.iadd, 1) := by decide +kernel
theorem dL_law_539 : decode cL_law 539 = .ok (.iaload, 1) := by decide +kernel
theorem dL_law_540 : decode cL_law 540 = .ok (.aload_n 3, 1) := by decide +kernel
theorem dL_law_541 : decode cL_law 541 = .ok (.invokestatic 122, 3) := by decide +kernel
theorem dL_law_544 : decode cL_law 544 = .ok (.istore 5, 2) := by decide +kernel
theorem dL_law_546 : decode cL_law 546 = .ok (.aload_n 2, 1) := by decide +kernel
theorem dL_law_547 : decode cL_law 547 = .ok (.aload_n 0, 1) := by decide +kernel
theorem dL_law_548 : decode cL_law 548 = .ok (.iload 4, 2) := by decide +kernel
theorem dL_law_550 : decode cL_law 550 = .ok (.iconst 1, 1) := by decide +kernel
theorem dL_law_551 : decode cL_law 551 = .ok (.iadd, 1) := by decide +kernel
theorem dL_law_552 : decode cL_law 552 = .ok (.iaload, 1) := by decide +kernel
theorem dL_law_553 : decode cL_law 553 = .ok (.invokevirtual 124, 3) := by decide +kernel
theorem dL_law_556 : decode cL_law 556 = .ok (.istore 6, 2) := by decide +kernel
theorem dL_law_558 : decode cL_law 558 = .ok (.aload_n 2, 1) := by decide +kernel
theorem dL_law_559 : decode cL_law 559 = .ok (.invokevirtual 97, 3) := by decide +kernel
theorem dL_law_562 : decode cL_law 562 = .ok (.iload 5, 2) := by decide +kernel
theorem dL_law_564 : decode cL_law 564 = .ok (.if_icmp .eq 5, 3) := by decide +kernel
theorem dL_law_567 : decode cL_law 567 = .ok (.iconst 0, 1) := by decide +kernel
theorem dL_law_568 : decode cL_law 568 = .ok (.ireturn, 1) := by decide +kernel
theorem dL_law_569 : decode cL_law 569 = .ok (.iload 5, 2) := by decide +kernel
theorem dL_law_571 : decode cL_law 571 = .ok (.ifCond .ne 15, 3) := by decide +kernel
theorem dL_law_574 : decode cL_law 574 = .ok (.aload_n 3, 1) := by decide +kernel
theorem dL_law_575 : decode cL_law 575 = .ok (.iconst 0, 1) := by decide +kernel
theorem dL_law_576 : decode cL_law 576 = .ok (.laload, 1) := by decide +kernel
theorem dL_law_577 : decode cL_law 577 = .ok (.iload 6, 2) := by decide +kernel
theorem dL_law_579 : decode cL_law 579 = .ok (.i2l, 1) := by decide +kernel
theorem dL_law_580 : decode cL_law 580 = .ok (.lcmp, 1) := by decide +kernel
theorem dL_law_581 : decode cL_law 581 = .ok (.ifCond .eq 5, 3) := by decide +kernel
theorem dL_law_584 : decode cL_law 584 = .ok (.iconst 0, 1) := by decide +kernel
theorem dL_law_585 : decode cL_law 585 = .ok (.ireturn, 1) := by decide +kernel
theorem dL_law_586 : decode cL_law 586 = .ok (.goto 1010, 3) := by decide +kernel
theorem dL_law_589 : decode cL_law 589 = .ok (.aload_n 1, 1) := by decide +kernel
theorem dL_law_590 : decode cL_law 590 = .ok (.aload_n 0, 1) := by decide +kernel
theorem dL_law_591 : decode cL_law 591 = .ok (.iload 4, 2) := by decide +kernel
theorem dL_law_593 : decode cL_law 593 = .ok (.iconst 1, 1) := by decide +kernel
theorem dL_law_594 : decode cL_law 594 = .ok (.iadd, 1) := by decide +kernel
theorem dL_law_595 : decode cL_law 595 = .ok (.iaload, 1) := by decide +kernel
theorem dL_law_596 : decode cL_law 596 = .ok (.aload_n 3, 1) := by decide +kernel
theorem dL_law_597 : decode cL_law 597 = .ok (.invokestatic 125, 3) := by decide +kernel
theorem dL_law_600 : decode cL_law 600 = .ok (.istore 5, 2) := by decide +kernel
theorem dL_law_602 : decode cL_law 602 = .ok (.aload_n 2, 1) := by decide +kernel
theorem dL_law_603 : decode cL_law 603 = .ok (.aload_n 0, 1) := by decide +kernel
theorem dL_law_604 : decode cL_law 604 = .ok (.iload 4, 2) := by decide +kernel
theorem dL_law_606 : decode cL_law 606 = .ok (.iconst 1, 1) := by decide +kernel
theorem dL_law_607 : decode cL_law 607 = .ok (.iadd, 1) := by decide +kernel
theorem dL_law_608 : decode cL_law 608 = .ok (.iaload, 1) := by decide +kernel
theorem dL_law_609 : decode cL_law 609 = .ok (.invokevirtual 127, 3) := by decide +kernel
theorem dL_law_612 : decode cL_law 612 = .ok (.istore 6, 2) := by decide +kernel
theorem dL_law_614 : decode cL_law 614 = .ok (.aload_n 2, 1) := by decide +kernel
theorem dL_law_615 : decode cL_law 615 = .ok (.invokevirtual 97, 3) := by decide +kernel
theorem dL_law_618 : decode cL_law 618 = .ok (.iload 5, 2) := by decide +kernel
theorem dL_law_620 : decode cL_law 620 = .ok (.if_icmp .eq 5, 3) := by decide +kernel
theorem dL_law_623 : decode cL_law 623 = .ok (.iconst 0, 1) := by decide +kernel
theorem dL_law_624 : decode cL_law 624 = .ok (.ireturn, 1) := by decide +kernel
theorem dL_law_625 : decode cL_law 625 = .ok (.iload 5, 2) := by decide +kernel
theorem dL_law_627 : decode cL_law 627 = .ok (.ifCond .ne 15, 3) := by decide +kernel
theorem dL_law_630 : decode cL_law 630 = .ok (.aload_n 3, 1) := by decide +kernel
theorem dL_law_631 : decode cL_law 631 = .ok (.iconst 0, 1) := by decide +kernel
theorem dL_law_632 : decode cL_law 632 = .ok (.laload, 1) := by decide +kernel
theorem dL_law_633 : decode cL_law 633 = .ok (.iload 6, 2) := by decide +kernel
theorem dL_law_635 : decode cL_law 635 = .ok (.i2l, 1) := by decide +kernel
theorem dL_law_636 : decode cL_law 636 = .ok (.lcmp, 1) := by decide +kernel
theorem dL_law_637 : decode cL_law 637 = .ok (.ifCond .eq 5, 3) := by decide +kernel
theorem dL_law_640 : decode cL_law 640 = .ok (.iconst 0, 1) := by decide +kernel
theorem dL_law_641 : decode cL_law 641 = .ok (.ireturn, 1) := by decide +kernel
theorem dL_law_642 : decode cL_law 642 = .ok (.goto 954, 3) := by decide +kernel
theorem dL_law_645 : decode cL_law 645 = .ok (.aload_n 1, 1) := by decide +kernel
theorem dL_law_646 : decode cL_law 646 = .ok (.aload_n 0, 1) := by decide +kernel
theorem dL_law_647 : decode cL_law 647 = .ok (.iload 4, 2) := by decide +kernel
theorem dL_law_649 : decode cL_law 649 = .ok (.iconst 1, 1) := by decide +kernel
theorem dL_law_650 : decode cL_law 650 = .ok (.iadd, 1) := by decide +kernel
theorem dL_law_651 : decode cL_law 651 = .ok (.iaload, 1) := by decide +kernel
theorem dL_law_652 : decode cL_law 652 = .ok (.aload_n 3, 1) := by decide +kernel
theorem dL_law_653 : decode cL_law 653 = .ok (.invokestatic 128, 3) := by decide +kernel
theorem dL_law_656 : decode cL_law 656 = .ok (.istore 5, 2) := by decide +kernel
theorem dL_law_658 : decode cL_law 658 = .ok (.aload_n 2, 1) := by decide +kernel
theorem dL_law_659 : decode cL_law 659 = .ok (.aload_n 0, 1) := by decide +kernel
theorem dL_law_660 : decode cL_law 660 = .ok (.iload 4, 2) := by decide +kernel
theorem dL_law_662 : decode cL_law 662 = .ok (.iconst 1, 1) := by decide +kernel
theorem dL_law_663 : decode cL_law 663 = .ok (.iadd, 1) := by decide +kernel
theorem dL_law_664 : decode cL_law 664 = .ok (.iaload, 1) := by decide +kernel
theorem dL_law_665 : decode cL_law 665 = .ok (.invokevirtual 130, 3) := by decide +kernel
theorem dL_law_668 : decode cL_law 668 = .ok (.istore 6, 2) := by decide +kernel
theorem dL_law_670 : decode cL_law 670 = .ok (.aload_n 2, 1) := by decide +kernel
theorem dL_law_671 : decode cL_law 671 = .ok (.invokevirtual 97, 3) := by decide +kernel
theorem dL_law_674 : decode cL_law 674 = .ok (.iload 5, 2) := by decide +kernel
theorem dL_law_676 : decode cL_law 676 = .ok (.if_icmp .eq 5, 3) := by decide +kernel
theorem dL_law_679 : decode cL_law 679 = .ok (.iconst 0, 1) := by decide +kernel
theorem dL_law_680 : decode cL_law 680 = .ok (.ireturn, 1) := by decide +kernel
theorem dL_law_681 : decode cL_law 681 = .ok (.iload 5, 2) := by decide +kernel
theorem dL_law_683 : decode cL_law 683 = .ok (.ifCond .ne 22, 3) := by decide +kernel
theorem dL_law_686 : decode cL_law 686 = .ok (.aload_n 3, 1) := by decide +kernel
theorem dL_law_687 : decode cL_law 687 = .ok (.iconst 0, 1) := by decide +kernel
theorem dL_law_688 : decode cL_law 688 = .ok (.laload, 1) := by decide +kernel
theorem dL_law_689 : decode cL_law 689 = .ok (.iload 6, 2) := by decide +kernel
theorem dL_law_691 : decode cL_law 691 = .ok (.ifCond .eq 7, 3) := by decide +kernel
theorem dL_law_694 : decode cL_law 694 = .ok (.lconst 1, 1) := by decide +kernel
theorem dL_law_695 : decode cL_law 695 = .ok (.goto 4, 3) := by decide +kernel
theorem dL_law_698 : decode cL_law 698 = .ok (.lconst 0, 1) := by decide +kernel
theorem dL_law_699 : decode cL_law 699 = .ok (.lcmp, 1) := by decide +kernel
theorem dL_law_700 : decode cL_law 700 = .ok (.ifCond .eq 5, 3) := by decide +kernel
theorem dL_law_703 : decode cL_law 703 = .ok (.iconst 0, 1) := by decide +kernel
theorem dL_law_704 : decode cL_law 704 = .ok (.ireturn, 1) := by decide +kernel
theorem dL_law_705 : decode cL_law 705 = .ok (.goto 891, 3) := by decide +kernel
theorem dL_law_708 : decode cL_law 708 = .ok (.aload_n 1, 1) := by decide +kernel
theorem dL_law_709 : decode cL_law 709 = .ok (.aload_n 0, 1) := by decide +kernel
theorem dL_law_710 : decode cL_law 710 = .ok (.iload 4, 2) := by decide +kernel
theorem dL_law_712 : decode cL_law 712 = .ok (.iconst 1, 1) := by decide +kernel
theorem dL_law_713 : decode cL_law 713 = .ok (.iadd, 1) := by decide +kernel
theorem dL_law_714 : decode cL_law 714 = .ok (.iaload, 1) := by decide +kernel
theorem dL_law_715 : decode cL_law 715 = .ok (.aload_n 0, 1) := by decide +kernel
theorem dL_law_716 : decode cL_law 716 = .ok (.iload 4, 2) := by decide +kernel
theorem dL_law_718 : decode cL_law 718 = .ok (.iconst 2, 1) := by decide +kernel
theorem dL_law_719 : decode cL_law 719 = .ok (.iadd, 1) := by decide +kernel
theorem dL_law_720 : decode cL_law 720 = .ok (.iaload, 1) := by decide +kernel
theorem dL_law_721 : decode cL_law 721 = .ok (.aload_n 0, 1) := by decide +kernel
theorem dL_law_722 : decode cL_law 722 = .ok (.iload 4, 2) := by decide +kernel
theorem dL_law_724 : decode cL_law 724 = .ok (.iconst 3, 1) := by decide +kernel
theorem dL_law_725 : decode cL_law 725 = .ok (.iadd, 1) := by decide +kernel
theorem dL_law_726 : decode cL_law 726 = .ok (.iaload, 1) := by decide +kernel
theorem dL_law_727 : decode cL_law 727 = .ok (.aload_n 3, 1) := by decide +kernel
theorem dL_law_728 : decode cL_law 728 = .ok (.invokestatic 131, 3) := by decide +kernel
theorem dL_law_731 : decode cL_law 731 = .ok (.istore 5, 2) := by decide +kernel
theorem dL_law_733 : decode cL_law 733 = .ok (.aload_n 2, 1) := by decide +kernel
theorem dL_law_734 : decode cL_law 734 = .ok (.aload_n 0, 1) := by decide +kernel
theorem dL_law_735 : decode cL_law 735 = .ok (.iload 4, 2) := by decide +kernel
theorem dL_law_737 : decode cL_law 737 = .ok (.iconst 1, 1) := by decide +kernel
theorem dL_law_738 : decode cL_law 738 = .ok (.iadd, 1) := by decide +kernel
theorem dL_law_739 : decode cL_law 739 = .ok (.iaload, 1) := by decide +kernel
theorem dL_law_740 : decode cL_law 740 = .ok (.aload_n 0, 1) := by decide +kernel
theorem dL_law_741 : decode cL_law 741 = .ok (.iload 4, 2) := by decide +kernel
theorem dL_law_743 : decode cL_law 743 = .ok (.iconst 2, 1) := by decide +kernel
theorem dL_law_744 : decode cL_law 744 = .ok (.iadd, 1) := by decide +kernel
theorem dL_law_745 : decode cL_law 745 = .ok (.iaload, 1) := by decide +kernel
theorem dL_law_746 : decode cL_law 746 = .ok (.aload_n 0, 1) := by decide +kernel
theorem dL_law_747 : decode cL_law 747 = .ok (.iload 4, 2) := by decide +kernel
theorem dL_law_749 : decode cL_law 749 = .ok (.iconst 3, 1) := by decide +kernel
theorem dL_law_750 : decode cL_law 750 = .ok (.iadd, 1) := by decide +kernel
theorem dL_law_751 : decode cL_law 751 = .ok (.iaload, 1) := by decide +kernel
theorem dL_law_752 : decode cL_law 752 = .ok (.invokevirtual 134, 3) := by decide +kernel
theorem dL_law_755 : decode cL_law 755 = .ok (.istore 6, 2) := by decide +kernel
theorem dL_law_757 : decode cL_law 757 = .ok (.aload_n 2, 1) := by decide +kernel
theorem dL_law_758 : decode cL_law 758 = .ok (.invokevirtual 97, 3) := by decide +kernel
theorem dL_law_761 : decode cL_law 761 = .ok (.iload 5, 2) := by decide +kernel
theorem dL_law_763 : decode cL_law 763 = .ok (.if_icmp .eq 5, 3) := by decide +kernel
theorem dL_law_766 : decode cL_law 766 = .ok (.iconst 0, 1) := by decide +kernel
theorem dL_law_767 : decode cL_law 767 = .ok (.ireturn, 1) := by decide +kernel
theorem dL_law_768 : decode cL_law 768 = .ok (.iload 5, 2) := by decide +kernel
theorem dL_law_770 : decode cL_law 770 = .ok (.ifCond .ne 15, 3) := by decide +kernel
theorem dL_law_773 : decode cL_law 773 = .ok (.aload_n 3, 1) := by decide +kernel
theorem dL_law_774 : decode cL_law 774 = .ok (.iconst 0, 1) := by decide +kernel
theorem dL_law_775 : decode cL_law 775 = .ok (.laload, 1) := by decide +kernel
theorem dL_law_776 : decode cL_law 776 = .ok (.iload 6, 2) := by decide +kernel
theorem dL_law_778 : decode cL_law 778 = .ok (.i2l, 1) := by decide +kernel
theorem dL_law_779 : decode cL_law 779 = .ok (.lcmp, 1) := by decide +kernel
theorem dL_law_780 : decode cL_law 780 = .ok (.ifCond .eq 5, 3) := by decide +kernel
theorem dL_law_783 : decode cL_law 783 = .ok (.iconst 0, 1) := by decide +kernel
theorem dL_law_784 : decode cL_law 784 = .ok (.ireturn, 1) := by decide +kernel
theorem dL_law_785 : decode cL_law 785 = .ok (.goto 811, 3) := by decide +kernel
theorem dL_law_788 : decode cL_law 788 = .ok (.aload_n 1, 1) := by decide +kernel
theorem dL_law_789 : decode cL_law 789 = .ok (.aload_n 0, 1) := by decide +kernel
theorem dL_law_790 : decode cL_law 790 = .ok (.iload 4, 2) := by decide +kernel
theorem dL_law_792 : decode cL_law 792 = .ok (.iconst 1, 1) := by decide +kernel
theorem dL_law_793 : decode cL_law 793 = .ok (.iadd, 1) := by decide +kernel
theorem dL_law_794 : decode cL_law 794 = .ok (.iaload, 1) := by decide +kernel
theorem dL_law_795 : decode cL_law 795 = .ok (.aload_n 0, 1) := by decide +kernel
theorem dL_law_796 : decode cL_law 796 = .ok (.iload 4, 2) := by decide +kernel
theorem dL_law_798 : decode cL_law 798 = .ok (.iconst 2, 1) := by decide +kernel
theorem dL_law_799 : decode cL_law 799 = .ok (.iadd, 1) := by decide +kernel
theorem dL_law_800 : decode cL_law 800 = .ok (.iaload, 1) := by decide +kernel
theorem dL_law_801 : decode cL_law 801 = .ok (.aload_n 3, 1) := by decide +kernel
theorem dL_law_802 : decode cL_law 802 = .ok (.invokestatic 135, 3) := by decide +kernel
theorem dL_law_805 : decode cL_law 805 = .ok (.istore 5, 2) := by decide +kernel
theorem dL_law_807 : decode cL_law 807 = .ok (.aload_n 2, 1) := by decide +kernel
theorem dL_law_808 : decode cL_law 808 = .ok (.aload_n 0, 1) := by decide +kernel
theorem dL_law_809 : decode cL_law 809 = .ok (.iload 4, 2) := by decide +kernel
theorem dL_law_811 : decode cL_law 811 = .ok (.iconst 1, 1) := by decide +kernel
theorem dL_law_812 : decode cL_law 812 = .ok (.iadd, 1) := by decide +kernel
theorem dL_law_813 : decode cL_law 813 = .ok (.iaload, 1) := by decide +kernel
theorem dL_law_814 : decode cL_law 814 = .ok (.aload_n 0, 1) := by decide +kernel
theorem dL_law_815 : decode cL_law 815 = .ok (.iload 4, 2) := by decide +kernel
theorem dL_law_817 : decode cL_law 817 = .ok (.iconst 2, 1) := by decide +kernel
theorem dL_law_818 : decode cL_law 818 = .ok (.iadd, 1) := by decide +kernel
theorem dL_law_819 : decode cL_law 819 = .ok (.iaload, 1) := by decide +kernel
theorem dL_law_820 : decode cL_law 820 = .ok (.invokevirtual 137, 3) := by decide +kernel
theorem dL_law_823 : decode cL_law 823 = .ok (.istore 6, 2) := by decide +kernel
theorem dL_law_825 : decode cL_law 825 = .ok (.aload_n 2, 1) := by decide +kernel
theorem dL_law_826 : decode cL_law 826 = .ok (.invokevirtual 97, 3) := by decide +kernel
theorem dL_law_829 : decode cL_law 829 = .ok (.iload 5, 2) := by decide +kernel
theorem dL_law_831 : decode cL_law 831 = .ok (.if_icmp .eq 5, 3) := by decide +kernel
theorem dL_law_834 : decode cL_law 834 = .ok (.iconst 0, 1) := by decide +kernel
theorem dL_law_835 : decode cL_law 835 = .ok (.ireturn, 1) := by decide +kernel
theorem dL_law_836 : decode cL_law 836 = .ok (.iload 5, 2) := by decide +kernel
theorem dL_law_838 : decode cL_law 838 = .ok (.ifCond .ne 15, 3) := by decide +kernel
theorem dL_law_841 : decode cL_law 841 = .ok (.aload_n 3, 1) := by decide +kernel
theorem dL_law_842 : decode cL_law 842 = .ok (.iconst 0, 1) := by decide +kernel
theorem dL_law_843 : decode cL_law 843 = .ok (.laload, 1) := by decide +kernel
theorem dL_law_844 : decode cL_law 844 = .ok (.iload 6, 2) := by decide +kernel
theorem dL_law_846 : decode cL_law 846 = .ok (.i2l, 1) := by decide +kernel
theorem dL_law_847 : decode cL_law 847 = .ok (.lcmp, 1) := by decide +kernel
theorem dL_law_848 : decode cL_law 848 = .ok (.ifCond .eq 5, 3) := by decide +kernel
theorem dL_law_851 : decode cL_law 851 = .ok (.iconst 0, 1) := by decide +kernel
theorem dL_law_852 : decode cL_law 852 = .ok (.ireturn, 1) := by decide +kernel
theorem dL_law_853 : decode cL_law 853 = .ok (.goto 743, 3) := by decide +kernel
theorem dL_law_856 : decode cL_law 856 = .ok (.aload_n 1, 1) := by decide +kernel
theorem dL_law_857 : decode cL_law 857 = .ok (.aload_n 0, 1) := by decide +kernel
theorem dL_law_858 : decode cL_law 858 = .ok (.iload 4, 2) := by decide +kernel
theorem dL_law_860 : decode cL_law 860 = .ok (.iconst 1, 1) := by decide +kernel
theorem dL_law_861 : decode cL_law 861 = .ok (.iadd, 1) := by decide +kernel
theorem dL_law_862 : decode cL_law 862 = .ok (.iaload, 1) := by decide +kernel
theorem dL_law_863 : decode cL_law 863 = .ok (.aload_n 3, 1) := by decide +kernel
theorem dL_law_864 : decode cL_law 864 = .ok (.invokestatic 138, 3) := by decide +kernel
theorem dL_law_867 : decode cL_law 867 = .ok (.istore 5, 2) := by decide +kernel
theorem dL_law_869 : decode cL_law 869 = .ok (.aload_n 2, 1) := by decide +kernel
theorem dL_law_870 : decode cL_law 870 = .ok (.aload_n 0, 1) := by decide +kernel
theorem dL_law_871 : decode cL_law 871 = .ok (.iload 4, 2) := by decide +kernel
theorem dL_law_873 : decode cL_law 873 = .ok (.iconst 1, 1) := by decide +kernel
theorem dL_law_874 : decode cL_law 874 = .ok (.iadd, 1) := by decide +kernel
theorem dL_law_875 : decode cL_law 875 = .ok (.iaload, 1) := by decide +kernel
theorem dL_law_876 : decode cL_law 876 = .ok (.invokevirtual 140, 3) := by decide +kernel
theorem dL_law_879 : decode cL_law 879 = .ok (.istore 6, 2) := by decide +kernel
theorem dL_law_881 : decode cL_law 881 = .ok (.aload_n 2, 1) := by decide +kernel
theorem dL_law_882 : decode cL_law 882 = .ok (.invokevirtual 97, 3) := by decide +kernel
theorem dL_law_885 : decode cL_law 885 = .ok (.iload 5, 2) := by decide +kernel
theorem dL_law_887 : decode cL_law 887 = .ok (.if_icmp .eq 5, 3) := by decide +kernel
theorem dL_law_890 : decode cL_law 890 = .ok (.iconst 0, 1) := by decide +kernel
theorem dL_law_891 : decode cL_law 891 = .ok (.ireturn, 1) := by decide +kernel
theorem dL_law_892 : decode cL_law 892 = .ok (.iload 5, 2) := by decide +kernel
theorem dL_law_894 : decode cL_law 894 = .ok (.ifCond .ne 15, 3) := by decide +kernel
theorem dL_law_897 : decode cL_law 897 = .ok (.aload_n 3, 1) := by decide +kernel
theorem dL_law_898 : decode cL_law 898 = .ok (.iconst 0, 1) := by decide +kernel
theorem dL_law_899 : decode cL_law 899 = .ok (.laload, 1) := by decide +kernel
theorem dL_law_900 : decode cL_law 900 = .ok (.iload 6, 2) := by decide +kernel
theorem dL_law_902 : decode cL_law 902 = .ok (.i2l, 1) := by decide +kernel
theorem dL_law_903 : decode cL_law 903 = .ok (.lcmp, 1) := by decide +kernel
theorem dL_law_904 : decode cL_law 904 = .ok (.ifCond .eq 5, 3) := by decide +kernel
theorem dL_law_907 : decode cL_law 907 = .ok (.iconst 0, 1) := by decide +kernel
theorem dL_law_908 : decode cL_law 908 = .ok (.ireturn, 1) := by decide +kernel
theorem dL_law_909 : decode cL_law 909 = .ok (.goto 687, 3) := by decide +kernel
theorem dL_law_912 : decode cL_law 912 = .ok (.aload_n 1, 1) := by decide +kernel
theorem dL_law_913 : decode cL_law 913 = .ok (.aload_n 0, 1) := by decide +kernel
theorem dL_law_914 : decode cL_law 914 = .ok (.iload 4, 2) := by decide +kernel
theorem dL_law_916 : decode cL_law 916 = .ok (.iconst 1, 1) := by decide +kernel
theorem dL_law_917 : decode cL_law 917 = .ok (.iadd, 1) := by decide +kernel
theorem dL_law_918 : decode cL_law 918 = .ok (.iaload, 1) := by decide +kernel
theorem dL_law_919 : decode cL_law 919 = .ok (.aload_n 0, 1) := by decide +kernel
theorem dL_law_920 : decode cL_law 920 = .ok (.iload 4, 2) := by decide +kernel
theorem dL_law_922 : decode cL_law 922 = .ok (.iconst 2, 1) := by decide +kernel
theorem dL_law_923 : decode cL_law 923 = .ok (.iadd, 1) := by decide +kernel
theorem dL_law_924 : decode cL_law 924 = .ok (.iaload, 1) := by decide +kernel
theorem dL_law_925 : decode cL_law 925 = .ok (.aload_n 3, 1) := by decide +kernel
theorem dL_law_926 : decode cL_law 926 = .ok (.invokestatic 141, 3) := by decide +kernel
theorem dL_law_929 : decode cL_law 929 = .ok (.istore 5, 2) := by decide +kernel
theorem dL_law_931 : decode cL_law 931 = .ok (.aload_n 2, 1) := by decide +kernel
theorem dL_law_932 : decode cL_law 932 = .ok (.aload_n 0, 1) := by decide +kernel
theorem dL_law_933 : decode cL_law 933 = .ok (.iload 4, 2) := by decide +kernel
theorem dL_law_935 : decode cL_law 935 = .ok (.iconst 1, 1) := by decide +kernel
theorem dL_law_936 : decode cL_law 936 = .ok (.iadd, 1) := by decide +kernel
theorem dL_law_937 : decode cL_law 937 = .ok (.iaload, 1) := by decide +kernel
theorem dL_law_938 : decode cL_law 938 = .ok (.aload_n 0, 1) := by decide +kernel
theorem dL_law_939 : decode cL_law 939 = .ok (.iload 4, 2) := by decide +kernel
theorem dL_law_941 : decode cL_law 941 = .ok (.iconst 2, 1) := by decide +kernel
theorem dL_law_942 : decode cL_law 942 = .ok (.iadd, 1) := by decide +kernel
theorem dL_law_943 : decode cL_law 943 = .ok (.iaload, 1) := by decide +kernel
theorem dL_law_944 : decode cL_law 944 = .ok (.invokevirtual 143, 3) := by decide +kernel
theorem dL_law_947 : decode cL_law 947 = .ok (.istore 6, 2) := by decide +kernel
theorem dL_law_949 : decode cL_law 949 = .ok (.aload_n 2, 1) := by decide +kernel
theorem dL_law_950 : decode cL_law 950 = .ok (.invokevirtual 97, 3) := by decide +kernel
theorem dL_law_953 : decode cL_law 953 = .ok (.iload 5, 2) := by decide +kernel
theorem dL_law_955 : decode cL_law 955 = .ok (.if_icmp .eq 5, 3) := by decide +kernel
theorem dL_law_958 : decode cL_law 958 = .ok (.iconst 0, 1) := by decide +kernel
theorem dL_law_959 : decode cL_law 959 = .ok (.ireturn, 1) := by decide +kernel
theorem dL_law_960 : decode cL_law 960 = .ok (.iload 5, 2) := by decide +kernel
theorem dL_law_962 : decode cL_law 962 = .ok (.ifCond .ne 15, 3) := by decide +kernel
theorem dL_law_965 : decode cL_law 965 = .ok (.aload_n 3, 1) := by decide +kernel
theorem dL_law_966 : decode cL_law 966 = .ok (.iconst 0, 1) := by decide +kernel
theorem dL_law_967 : decode cL_law 967 = .ok (.laload, 1) := by decide +kernel
theorem dL_law_968 : decode cL_law 968 = .ok (.iload 6, 2) := by decide +kernel
theorem dL_law_970 : decode cL_law 970 = .ok (.i2l, 1) := by decide +kernel
theorem dL_law_971 : decode cL_law 971 = .ok (.lcmp, 1) := by decide +kernel
theorem dL_law_972 : decode cL_law 972 = .ok (.ifCond .eq 5, 3) := by decide +kernel
theorem dL_law_975 : decode cL_law 975 = .ok (.iconst 0, 1) := by decide +kernel
theorem dL_law_976 : decode cL_law 976 = .ok (.ireturn, 1) := by decide +kernel
theorem dL_law_977 : decode cL_law 977 = .ok (.goto 619, 3) := by decide +kernel
theorem dL_law_980 : decode cL_law 980 = .ok (.aload_n 1, 1) := by decide +kernel
theorem dL_law_981 : decode cL_law 981 = .ok (.aload_n 0, 1) := by decide +kernel
theorem dL_law_982 : decode cL_law 982 = .ok (.iload 4, 2) := by decide +kernel
theorem dL_law_984 : decode cL_law 984 = .ok (.iconst 1, 1) := by decide +kernel
theorem dL_law_985 : decode cL_law 985 = .ok (.iadd, 1) := by decide +kernel
theorem dL_law_986 : decode cL_law 986 = .ok (.iaload, 1) := by decide +kernel
theorem dL_law_987 : decode cL_law 987 = .ok (.aload_n 0, 1) := by decide +kernel
theorem dL_law_988 : decode cL_law 988 = .ok (.iload 4, 2) := by decide +kernel
theorem dL_law_990 : decode cL_law 990 = .ok (.iconst 2, 1) := by decide +kernel
theorem dL_law_991 : decode cL_law 991 = .ok (.iadd, 1) := by decide +kernel
theorem dL_law_992 : decode cL_law 992 = .ok (.iaload, 1) := by decide +kernel
theorem dL_law_993 : decode cL_law 993 = .ok (.aload_n 3, 1) := by decide +kernel
theorem dL_law_994 : decode cL_law 994 = .ok (.invokestatic 144, 3) := by decide +kernel
theorem dL_law_997 : decode cL_law 997 = .ok (.istore 5, 2) := by decide +kernel
theorem dL_law_999 : decode cL_law 999 = .ok (.aload_n 2, 1) := by decide +kernel
theorem dL_law_1000 : decode cL_law 1000 = .ok (.aload_n 0, 1) := by decide +kernel
theorem dL_law_1001 : decode cL_law 1001 = .ok (.iload 4, 2) := by decide +kernel
theorem dL_law_1003 : decode cL_law 1003 = .ok (.iconst 1, 1) := by decide +kernel
theorem dL_law_1004 : decode cL_law 1004 = .ok (.iadd, 1) := by decide +kernel
theorem dL_law_1005 : decode cL_law 1005 = .ok (.iaload, 1) := by decide +kernel
theorem dL_law_1006 : decode cL_law 1006 = .ok (.aload_n 0, 1) := by decide +kernel
theorem dL_law_1007 : decode cL_law 1007 = .ok (.iload 4, 2) := by decide +kernel
theorem dL_law_1009 : decode cL_law 1009 = .ok (.iconst 2, 1) := by decide +kernel
theorem dL_law_1010 : decode cL_law 1010 = .ok (.iadd, 1) := by decide +kernel
theorem dL_law_1011 : decode cL_law 1011 = .ok (.iaload, 1) := by decide +kernel
theorem dL_law_1012 : decode cL_law 1012 = .ok (.invokevirtual 146, 3) := by decide +kernel
theorem dL_law_1015 : decode cL_law 1015 = .ok (.istore 6, 2) := by decide +kernel
theorem dL_law_1017 : decode cL_law 1017 = .ok (.aload_n 2, 1) := by decide +kernel
theorem dL_law_1018 : decode cL_law 1018 = .ok (.invokevirtual 97, 3) := by decide +kernel
theorem dL_law_1021 : decode cL_law 1021 = .ok (.iload 5, 2) := by decide +kernel
theorem dL_law_1023 : decode cL_law 1023 = .ok (.if_icmp .eq 5, 3) := by decide +kernel
theorem dL_law_1026 : decode cL_law 1026 = .ok (.iconst 0, 1) := by decide +kernel
theorem dL_law_1027 : decode cL_law 1027 = .ok (.ireturn, 1) := by decide +kernel
theorem dL_law_1028 : decode cL_law 1028 = .ok (.iload 5, 2) := by decide +kernel
theorem dL_law_1030 : decode cL_law 1030 = .ok (.ifCond .ne 15, 3) := by decide +kernel
theorem dL_law_1033 : decode cL_law 1033 = .ok (.aload_n 3, 1) := by decide +kernel
theorem dL_law_1034 : decode cL_law 1034 = .ok (.iconst 0, 1) := by decide +kernel
theorem dL_law_1035 : decode cL_law 1035 = .ok (.laload, 1) := by decide +kernel
theorem dL_law_1036 : decode cL_law 1036 = .ok (.iload 6, 2) := by decide +kernel
theorem dL_law_1038 : decode cL_law 1038 = .ok (.i2l, 1) := by decide +kernel
theorem dL_law_1039 : decode cL_law 1039 = .ok (.lcmp, 1) := by decide +kernel
theorem dL_law_1040 : decode cL_law 1040 = .ok (.ifCond .eq 5, 3) := by decide +kernel
theorem dL_law_1043 : decode cL_law 1043 = .ok (.iconst 0, 1) := by decide +kernel
theorem dL_law_1044 : decode cL_law 1044 = .ok (.ireturn, 1) := by decide +kernel
theorem dL_law_1045 : decode cL_law 1045 = .ok (.goto 551, 3) := by decide +kernel
theorem dL_law_1048 : decode cL_law 1048 = .ok (.aload_n 1, 1) := by decide +kernel
theorem dL_law_1049 : decode cL_law 1049 = .ok (.aload_n 0, 1) := by decide +kernel
theorem dL_law_1050 : decode cL_law 1050 = .ok (.iload 4, 2) := by decide +kernel
theorem dL_law_1052 : decode cL_law 1052 = .ok (.iconst 1, 1) := by decide +kernel
theorem dL_law_1053 : decode cL_law 1053 = .ok (.iadd, 1) := by decide +kernel
theorem dL_law_1054 : decode cL_law 1054 = .ok (.iaload, 1) := by decide +kernel
theorem dL_law_1055 : decode cL_law 1055 = .ok (.aload_n 3, 1) := by decide +kernel
theorem dL_law_1056 : decode cL_law 1056 = .ok (.invokestatic 147, 3) := by decide +kernel
theorem dL_law_1059 : decode cL_law 1059 = .ok (.istore 5, 2) := by decide +kernel
theorem dL_law_1061 : decode cL_law 1061 = .ok (.aload_n 2, 1) := by decide +kernel
theorem dL_law_1062 : decode cL_law 1062 = .ok (.aload_n 0, 1) := by decide +kernel
theorem dL_law_1063 : decode cL_law 1063 = .ok (.iload 4, 2) := by decide +kernel
theorem dL_law_1065 : decode cL_law 1065 = .ok (.iconst 1, 1) := by decide +kernel
theorem dL_law_1066 : decode cL_law 1066 = .ok (.iadd, 1) := by decide +kernel
theorem dL_law_1067 : decode cL_law 1067 = .ok (.iaload, 1) := by decide +kernel
theorem dL_law_1068 : decode cL_law 1068 = .ok (.invokevirtual 149, 3) := by decide +kernel
theorem dL_law_1071 : decode cL_law 1071 = .ok (.istore 6, 2) := by decide +kernel
theorem dL_law_1073 : decode cL_law 1073 = .ok (.aload_n 2, 1) := by decide +kernel
theorem dL_law_1074 : decode cL_law 1074 = .ok (.invokevirtual 97, 3) := by decide +kernel
theorem dL_law_1077 : decode cL_law 1077 = .ok (.iload 5, 2) := by decide +kernel
theorem dL_law_1079 : decode cL_law 1079 = .ok (.if_icmp .eq 5, 3) := by decide +kernel
theorem dL_law_1082 : decode cL_law 1082 = .ok (.iconst 0, 1) := by decide +kernel
theorem dL_law_1083 : decode cL_law 1083 = .ok (.ireturn, 1) := by decide +kernel
theorem dL_law_1084 : decode cL_law 1084 = .ok (.iload 5, 2) := by decide +kernel
theorem dL_law_1086 : decode cL_law 1086 = .ok (.ifCond .ne 15, 3) := by decide +kernel
theorem dL_law_1089 : decode cL_law 1089 = .ok (.aload_n 3, 1) := by decide +kernel
theorem dL_law_1090 : decode cL_law 1090 = .ok (.iconst 0, 1) := by decide +kernel
theorem dL_law_1091 : decode cL_law 1091 = .ok (.laload, 1) := by decide +kernel
theorem dL_law_1092 : decode cL_law 1092 = .ok (.iload 6, 2) := by decide +kernel
theorem dL_law_1094 : decode cL_law 1094 = .ok (.i2l, 1) := by decide +kernel
theorem dL_law_1095 : decode cL_law 1095 = .ok (.lcmp, 1) := by decide +kernel
theorem dL_law_1096 : decode cL_law 1096 = .ok (.ifCond .eq 5, 3) := by decide +kernel
theorem dL_law_1099 : decode cL_law 1099 = .ok (.iconst 0, 1) := by decide +kernel
theorem dL_law_1100 : decode cL_law 1100 = .ok (.ireturn, 1) := by decide +kernel
theorem dL_law_1101 : decode cL_law 1101 = .ok (.goto 495, 3) := by decide +kernel
theorem dL_law_1104 : decode cL_law 1104 = .ok (.aload_n 1, 1) := by decide +kernel
theorem dL_law_1105 : decode cL_law 1105 = .ok (.aload_n 0, 1) := by decide +kernel
theorem dL_law_1106 : decode cL_law 1106 = .ok (.iload 4, 2) := by decide +kernel
theorem dL_law_1108 : decode cL_law 1108 = .ok (.iconst 1, 1) := by decide +kernel
theorem dL_law_1109 : decode cL_law 1109 = .ok (.iadd, 1) := by decide +kernel
theorem dL_law_1110 : decode cL_law 1110 = .ok (.iaload, 1) := by decide +kernel
theorem dL_law_1111 : decode cL_law 1111 = .ok (.aload_n 0, 1) := by decide +kernel
theorem dL_law_1112 : decode cL_law 1112 = .ok (.iload 4, 2) := by decide +kernel
theorem dL_law_1114 : decode cL_law 1114 = .ok (.iconst 2, 1) := by decide +kernel
theorem dL_law_1115 : decode cL_law 1115 = .ok (.iadd, 1) := by decide +kernel
theorem dL_law_1116 : decode cL_law 1116 = .ok (.iaload, 1) := by decide +kernel
theorem dL_law_1117 : decode cL_law 1117 = .ok (.aload_n 0, 1) := by decide +kernel
theorem dL_law_1118 : decode cL_law 1118 = .ok (.iload 4, 2) := by decide +kernel
theorem dL_law_1120 : decode cL_law 1120 = .ok (.iconst 3, 1) := by decide +kernel
theorem dL_law_1121 : decode cL_law 1121 = .ok (.iadd, 1) := by decide +kernel
theorem dL_law_1122 : decode cL_law 1122 = .ok (.iaload, 1) := by decide +kernel
theorem dL_law_1123 : decode cL_law 1123 = .ok (.aload_n 3, 1) := by decide +kernel
theorem dL_law_1124 : decode cL_law 1124 = .ok (.invokestatic 150, 3) := by decide +kernel
theorem dL_law_1127 : decode cL_law 1127 = .ok (.istore 5, 2) := by decide +kernel
theorem dL_law_1129 : decode cL_law 1129 = .ok (.aload_n 2, 1) := by decide +kernel
theorem dL_law_1130 : decode cL_law 1130 = .ok (.aload_n 0, 1) := by decide +kernel
theorem dL_law_1131 : decode cL_law 1131 = .ok (.iload 4, 2) := by decide +kernel
theorem dL_law_1133 : decode cL_law 1133 = .ok (.iconst 1, 1) := by decide +kernel
theorem dL_law_1134 : decode cL_law 1134 = .ok (.iadd, 1) := by decide +kernel
theorem dL_law_1135 : decode cL_law 1135 = .ok (.iaload, 1) := by decide +kernel
theorem dL_law_1136 : decode cL_law 1136 = .ok (.aload_n 0, 1) := by decide +kernel
theorem dL_law_1137 : decode cL_law 1137 = .ok (.iload 4, 2) := by decide +kernel
theorem dL_law_1139 : decode cL_law 1139 = .ok (.iconst 2, 1) := by decide +kernel
theorem dL_law_1140 : decode cL_law 1140 = .ok (.iadd, 1) := by decide +kernel
theorem dL_law_1141 : decode cL_law 1141 = .ok (.iaload, 1) := by decide +kernel
theorem dL_law_1142 : decode cL_law 1142 = .ok (.aload_n 0, 1) := by decide +kernel
theorem dL_law_1143 : decode cL_law 1143 = .ok (.iload 4, 2) := by decide +kernel
theorem dL_law_1145 : decode cL_law 1145 = .ok (.iconst 3, 1) := by decide +kernel
theorem dL_law_1146 : decode cL_law 1146 = .ok (.iadd, 1) := by decide +kernel
theorem dL_law_1147 : decode cL_law 1147 = .ok (.iaload, 1) := by decide +kernel
theorem dL_law_1148 : decode cL_law 1148 = .ok (.invokevirtual 152, 3) := by decide +kernel
theorem dL_law_1151 : decode cL_law 1151 = .ok (.istore 6, 2) := by decide +kernel
theorem dL_law_1153 : decode cL_law 1153 = .ok (.aload_n 2, 1) := by decide +kernel
theorem dL_law_1154 : decode cL_law 1154 = .ok (.invokevirtual 97, 3) := by decide +kernel
theorem dL_law_1157 : decode cL_law 1157 = .ok (.iload 5, 2) := by decide +kernel
theorem dL_law_1159 : decode cL_law 1159 = .ok (.if_icmp .eq 5, 3) := by decide +kernel
theorem dL_law_1162 : decode cL_law 1162 = .ok (.iconst 0, 1) := by decide +kernel
theorem dL_law_1163 : decode cL_law 1163 = .ok (.ireturn, 1) := by decide +kernel
theorem dL_law_1164 : decode cL_law 1164 = .ok (.iload 5, 2) := by decide +kernel
theorem dL_law_1166 : decode cL_law 1166 = .ok (.ifCond .ne 15, 3) := by decide +kernel
theorem dL_law_1169 : decode cL_law 1169 = .ok (.aload_n 3, 1) := by decide +kernel
theorem dL_law_1170 : decode cL_law 1170 = .ok (.iconst 0, 1) := by decide +kernel
theorem dL_law_1171 : decode cL_law 1171 = .ok (.laload, 1) := by decide +kernel
theorem dL_law_1172 : decode cL_law 1172 = .ok (.iload 6, 2) := by decide +kernel
theorem dL_law_1174 : decode cL_law 1174 = .ok (.i2l, 1) := by decide +kernel
theorem dL_law_1175 : decode cL_law 1175 = .ok (.lcmp, 1) := by decide +kernel
theorem dL_law_1176 : decode cL_law 1176 = .ok (.ifCond .eq 5, 3) := by decide +kernel
theorem dL_law_1179 : decode cL_law 1179 = .ok (.iconst 0, 1) := by decide +kernel
theorem dL_law_1180 : decode cL_law 1180 = .ok (.ireturn, 1) := by decide +kernel
theorem dL_law_1181 : decode cL_law 1181 = .ok (.goto 415, 3) := by decide +kernel
theorem dL_law_1184 : decode cL_law 1184 = .ok (.aload_n 1, 1) := by decide +kernel
theorem dL_law_1185 : decode cL_law 1185 = .ok (.aload_n 0, 1) := by decide +kernel
theorem dL_law_1186 : decode cL_law 1186 = .ok (.iload 4, 2) := by decide +kernel
theorem dL_law_1188 : decode cL_law 1188 = .ok (.iconst 1, 1) := by decide +kernel
theorem dL_law_1189 : decode cL_law 1189 = .ok (.iadd, 1) := by decide +kernel
theorem dL_law_1190 : decode cL_law 1190 = .ok (.iaload, 1) := by decide +kernel
theorem dL_law_1191 : decode cL_law 1191 = .ok (.aload_n 0, 1) := by decide +kernel
theorem dL_law_1192 : decode cL_law 1192 = .ok (.iload 4, 2) := by decide +kernel
theorem dL_law_1194 : decode cL_law 1194 = .ok (.iconst 2, 1) := by decide +kernel
theorem dL_law_1195 : decode cL_law 1195 = .ok (.iadd, 1) := by decide +kernel
theorem dL_law_1196 : decode cL_law 1196 = .ok (.iaload, 1) := by decide +kernel
theorem dL_law_1197 : decode cL_law 1197 = .ok (.aload_n 3, 1) := by decide +kernel
theorem dL_law_1198 : decode cL_law 1198 = .ok (.invokestatic 153, 3) := by decide +kernel
theorem dL_law_1201 : decode cL_law 1201 = .ok (.istore 5, 2) := by decide +kernel
theorem dL_law_1203 : decode cL_law 1203 = .ok (.aload_n 2, 1) := by decide +kernel
theorem dL_law_1204 : decode cL_law 1204 = .ok (.aload_n 0, 1) := by decide +kernel
theorem dL_law_1205 : decode cL_law 1205 = .ok (.iload 4, 2) := by decide +kernel
theorem dL_law_1207 : decode cL_law 1207 = .ok (.iconst 1, 1) := by decide +kernel
theorem dL_law_1208 : decode cL_law 1208 = .ok (.iadd, 1) := by decide +kernel
theorem dL_law_1209 : decode cL_law 1209 = .ok (.iaload, 1) := by decide +kernel
theorem dL_law_1210 : decode cL_law 1210 = .ok (.aload_n 0, 1) := by decide +kernel
theorem dL_law_1211 : decode cL_law 1211 = .ok (.iload 4, 2) := by decide +kernel
theorem dL_law_1213 : decode cL_law 1213 = .ok (.iconst 2, 1) := by decide +kernel
theorem dL_law_1214 : decode cL_law 1214 = .ok (.iadd, 1) := by decide +kernel
theorem dL_law_1215 : decode cL_law 1215 = .ok (.iaload, 1) := by decide +kernel
theorem dL_law_1216 : decode cL_law 1216 = .ok (.invokevirtual 155, 3) := by decide +kernel
theorem dL_law_1219 : decode cL_law 1219 = .ok (.istore 6, 2) := by decide +kernel
theorem dL_law_1221 : decode cL_law 1221 = .ok (.aload_n 2, 1) := by decide +kernel
theorem dL_law_1222 : decode cL_law 1222 = .ok (.invokevirtual 97, 3) := by decide +kernel
theorem dL_law_1225 : decode cL_law 1225 = .ok (.iload 5, 2) := by decide +kernel
theorem dL_law_1227 : decode cL_law 1227 = .ok (.if_icmp .eq 5, 3) := by decide +kernel
theorem dL_law_1230 : decode cL_law 1230 = .ok (.iconst 0, 1) := by decide +kernel
theorem dL_law_1231 : decode cL_law 1231 = .ok (.ireturn, 1) := by decide +kernel
theorem dL_law_1232 : decode cL_law 1232 = .ok (.iload 5, 2) := by decide +kernel
theorem dL_law_1234 : decode cL_law 1234 = .ok (.ifCond .ne 15, 3) := by decide +kernel
theorem dL_law_1237 : decode cL_law 1237 = .ok (.aload_n 3, 1) := by decide +kernel
theorem dL_law_1238 : decode cL_law 1238 = .ok (.iconst 0, 1) := by decide +kernel
theorem dL_law_1239 : decode cL_law 1239 = .ok (.laload, 1) := by decide +kernel
theorem dL_law_1240 : decode cL_law 1240 = .ok (.iload 6, 2) := by decide +kernel
theorem dL_law_1242 : decode cL_law 1242 = .ok (.i2l, 1) := by decide +kernel
theorem dL_law_1243 : decode cL_law 1243 = .ok (.lcmp, 1) := by decide +kernel
theorem dL_law_1244 : decode cL_law 1244 = .ok (.ifCond .eq 5, 3) := by decide +kernel
theorem dL_law_1247 : decode cL_law 1247 = .ok (.iconst 0, 1) := by decide +kernel
theorem dL_law_1248 : decode cL_law 1248 = .ok (.ireturn, 1) := by decide +kernel
theorem dL_law_1249 : decode cL_law 1249 = .ok (.goto 347, 3) := by decide +kernel
theorem dL_law_1252 : decode cL_law 1252 = .ok (.aload_n 1, 1) := by decide +kernel
theorem dL_law_1253 : decode cL_law 1253 = .ok (.aload_n 0, 1) := by decide +kernel
theorem dL_law_1254 : decode cL_law 1254 = .ok (.iload 4, 2) := by decide +kernel
theorem dL_law_1256 : decode cL_law 1256 = .ok (.iconst 1, 1) := by decide +kernel
theorem dL_law_1257 : decode cL_law 1257 = .ok (.iadd, 1) := by decide +kernel
theorem dL_law_1258 : decode cL_law 1258 = .ok (.iaload, 1) := by decide +kernel
theorem dL_law_1259 : decode cL_law 1259 = .ok (.aload_n 0, 1) := by decide +kernel
theorem dL_law_1260 : decode cL_law 1260 = .ok (.iload 4, 2) := by decide +kernel
theorem dL_law_1262 : decode cL_law 1262 = .ok (.iconst 2, 1) := by decide +kernel
theorem dL_law_1263 : decode cL_law 1263 = .ok (.iadd, 1) := by decide +kernel
theorem dL_law_1264 : decode cL_law 1264 = .ok (.iaload, 1) := by decide +kernel
theorem dL_law_1265 : decode cL_law 1265 = .ok (.aload_n 3, 1) := by decide +kernel
theorem dL_law_1266 : decode cL_law 1266 = .ok (.invokestatic 156, 3) := by decide +kernel
theorem dL_law_1269 : decode cL_law 1269 = .ok (.istore 5, 2) := by decide +kernel
theorem dL_law_1271 : decode cL_law 1271 = .ok (.aload_n 2, 1) := by decide +kernel
theorem dL_law_1272 : decode cL_law 1272 = .ok (.aload_n 0, 1) := by decide +kernel
theorem dL_law_1273 : decode cL_law 1273 = .ok (.iload 4, 2) := by decide +kernel
theorem dL_law_1275 : decode cL_law 1275 = .ok (.iconst 1, 1) := by decide +kernel
theorem dL_law_1276 : decode cL_law 1276 = .ok (.iadd, 1) := by decide +kernel
theorem dL_law_1277 : decode cL_law 1277 = .ok (.iaload, 1) := by decide +kernel
theorem dL_law_1278 : decode cL_law 1278 = .ok (.aload_n 0, 1) := by decide +kernel
theorem dL_law_1279 : decode cL_law 1279 = .ok (.iload 4, 2) := by decide +kernel
theorem dL_law_1281 : decode cL_law 1281 = .ok (.iconst 2, 1) := by decide +kernel
theorem dL_law_1282 : decode cL_law 1282 = .ok (.iadd, 1) := by decide +kernel
theorem dL_law_1283 : decode cL_law 1283 = .ok (.iaload, 1) := by decide +kernel
theorem dL_law_1284 : decode cL_law 1284 = .ok (.invokevirtual 158, 3) := by decide +kernel
theorem dL_law_1287 : decode cL_law 1287 = .ok (.istore 6, 2) := by decide +kernel
theorem dL_law_1289 : decode cL_law 1289 = .ok (.aload_n 2, 1) := by decide +kernel
theorem dL_law_1290 : decode cL_law 1290 = .ok (.invokevirtual 97, 3) := by decide +kernel
theorem dL_law_1293 : decode cL_law 1293 = .ok (.iload 5, 2) := by decide +kernel
theorem dL_law_1295 : decode cL_law 1295 = .ok (.if_icmp .eq 5, 3) := by decide +kernel
theorem dL_law_1298 : decode cL_law 1298 = .ok (.iconst 0, 1) := by decide +kernel
theorem dL_law_1299 : decode cL_law 1299 = .ok (.ireturn, 1) := by decide +kernel
theorem dL_law_1300 : decode cL_law 1300 = .ok (.iload 5, 2) := by decide +kernel
theorem dL_law_1302 : decode cL_law 1302 = .ok (.ifCond .ne 15, 3) := by decide +kernel
theorem dL_law_1305 : decode cL_law 1305 = .ok (.aload_n 3, 1) := by decide +kernel
theorem dL_law_1306 : decode cL_law 1306 = .ok (.iconst 0, 1) := by decide +kernel
theorem dL_law_1307 : decode cL_law 1307 = .ok (.laload, 1) := by decide +kernel
theorem dL_law_1308 : decode cL_law 1308 = .ok (.iload 6, 2) := by decide +kernel
theorem dL_law_1310 : decode cL_law 1310 = .ok (.i2l, 1) := by decide +kernel
theorem dL_law_1311 : decode cL_law 1311 = .ok (.lcmp, 1) := by decide +kernel
theorem dL_law_1312 : decode cL_law 1312 = .ok (.ifCond .eq 5, 3) := by decide +kernel
theorem dL_law_1315 : decode cL_law 1315 = .ok (.iconst 0, 1) := by decide +kernel
theorem dL_law_1316 : decode cL_law 1316 = .ok (.ireturn, 1) := by decide +kernel
theorem dL_law_1317 : decode cL_law 1317 = .ok (.goto 279, 3) := by decide +kernel
theorem dL_law_1320 : decode cL_law 1320 = .ok (.aload_n 1, 1) := by decide +kernel
theorem dL_law_1321 : decode cL_law 1321 = .ok (.invokevirtual 159, 3) := by decide +kernel
theorem dL_law_1324 : decode cL_law 1324 = .ok (.aload_n 2, 1) := by decide +kernel
theorem dL_law_1325 : decode cL_law 1325 = .ok (.invokevirtual 162, 3) := by decide +kernel
theorem dL_law_1328 : decode cL_law 1328 = .ok (.if_icmp .eq 268, 3) := by decide +kernel
theorem dL_law_1331 : decode cL_law 1331 = .ok (.iconst 0, 1) := by decide +kernel
theorem dL_law_1332 : decode cL_law 1332 = .ok (.ireturn, 1) := by decide +kernel
theorem dL_law_1333 : decode cL_law 1333 = .ok (.aload_n 1, 1) := by decide +kernel
theorem dL_law_1334 : decode cL_law 1334 = .ok (.aload_n 0, 1) := by decide +kernel
theorem dL_law_1335 : decode cL_law 1335 = .ok (.iload 4, 2) := by decide +kernel
theorem dL_law_1337 : decode cL_law 1337 = .ok (.iconst 1, 1) := by decide +kernel
theorem dL_law_1338 : decode cL_law 1338 = .ok (.iadd, 1) := by decide +kernel
theorem dL_law_1339 : decode cL_law 1339 = .ok (.iaload, 1) := by decide +kernel
theorem dL_law_1340 : decode cL_law 1340 = .ok (.aload_n 0, 1) := by decide +kernel
theorem dL_law_1341 : decode cL_law 1341 = .ok (.iload 4, 2) := by decide +kernel
theorem dL_law_1343 : decode cL_law 1343 = .ok (.iconst 2, 1) := by decide +kernel
theorem dL_law_1344 : decode cL_law 1344 = .ok (.iadd, 1) := by decide +kernel
theorem dL_law_1345 : decode cL_law 1345 = .ok (.iaload, 1) := by decide +kernel
theorem dL_law_1346 : decode cL_law 1346 = .ok (.aload_n 3, 1) := by decide +kernel
theorem dL_law_1347 : decode cL_law 1347 = .ok (.invokestatic 163, 3) := by decide +kernel
theorem dL_law_1350 : decode cL_law 1350 = .ok (.istore 5, 2) := by decide +kernel
theorem dL_law_1352 : decode cL_law 1352 = .ok (.aload_n 2, 1) := by decide +kernel
theorem dL_law_1353 : decode cL_law 1353 = .ok (.aload_n 0, 1) := by decide +kernel
theorem dL_law_1354 : decode cL_law 1354 = .ok (.iload 4, 2) := by decide +kernel
theorem dL_law_1356 : decode cL_law 1356 = .ok (.iconst 1, 1) := by decide +kernel
theorem dL_law_1357 : decode cL_law 1357 = .ok (.iadd, 1) := by decide +kernel
theorem dL_law_1358 : decode cL_law 1358 = .ok (.iaload, 1) := by decide +kernel
theorem dL_law_1359 : decode cL_law 1359 = .ok (.aload_n 0, 1) := by decide +kernel
theorem dL_law_1360 : decode cL_law 1360 = .ok (.iload 4, 2) := by decide +kernel
theorem dL_law_1362 : decode cL_law 1362 = .ok (.iconst 2, 1) := by decide +kernel
theorem dL_law_1363 : decode cL_law 1363 = .ok (.iadd, 1) := by decide +kernel
theorem dL_law_1364 : decode cL_law 1364 = .ok (.iaload, 1) := by decide +kernel
theorem dL_law_1365 : decode cL_law 1365 = .ok (.invokevirtual 165, 3) := by decide +kernel
theorem dL_law_1368 : decode cL_law 1368 = .ok (.istore 6, 2) := by decide +kernel
theorem dL_law_1370 : decode cL_law 1370 = .ok (.aload_n 2, 1) := by decide +kernel
theorem dL_law_1371 : decode cL_law 1371 = .ok (.invokevirtual 97, 3) := by decide +kernel
theorem dL_law_1374 : decode cL_law 1374 = .ok (.iload 5, 2) := by decide +kernel
theorem dL_law_1376 : decode cL_law 1376 = .ok (.if_icmp .eq 5, 3) := by decide +kernel
theorem dL_law_1379 : decode cL_law 1379 = .ok (.iconst 0, 1) := by decide +kernel
theorem dL_law_1380 : decode cL_law 1380 = .ok (.ireturn, 1) := by decide +kernel
theorem dL_law_1381 : decode cL_law 1381 = .ok (.iload 5, 2) := by decide +kernel
theorem dL_law_1383 : decode cL_law 1383 = .ok (.ifCond .ne 15, 3) := by decide +kernel
theorem dL_law_1386 : decode cL_law 1386 = .ok (.aload_n 3, 1) := by decide +kernel
theorem dL_law_1387 : decode cL_law 1387 = .ok (.iconst 0, 1) := by decide +kernel
theorem dL_law_1388 : decode cL_law 1388 = .ok (.laload, 1) := by decide +kernel
theorem dL_law_1389 : decode cL_law 1389 = .ok (.iload 6, 2) := by decide +kernel
theorem dL_law_1391 : decode cL_law 1391 = .ok (.i2l, 1) := by decide +kernel
theorem dL_law_1392 : decode cL_law 1392 = .ok (.lcmp, 1) := by decide +kernel
theorem dL_law_1393 : decode cL_law 1393 = .ok (.ifCond .eq 5, 3) := by decide +kernel
theorem dL_law_1396 : decode cL_law 1396 = .ok (.iconst 0, 1) := by decide +kernel
theorem dL_law_1397 : decode cL_law 1397 = .ok (.ireturn, 1) := by decide +kernel
theorem dL_law_1398 : decode cL_law 1398 = .ok (.goto 198, 3) := by decide +kernel
theorem dL_law_1401 : decode cL_law 1401 = .ok (.aload_n 1, 1) := by decide +kernel
theorem dL_law_1402 : decode cL_law 1402 = .ok (.aload_n 0, 1) := by decide +kernel
theorem dL_law_1403 : decode cL_law 1403 = .ok (.iload 4, 2) := by decide +kernel
theorem dL_law_1405 : decode cL_law 1405 = .ok (.iconst 1, 1) := by decide +kernel
theorem dL_law_1406 : decode cL_law 1406 = .ok (.iadd, 1) := by decide +kernel
theorem dL_law_1407 : decode cL_law 1407 = .ok (.iaload, 1) := by decide +kernel
theorem dL_law_1408 : decode cL_law 1408 = .ok (.aload_n 3, 1) := by decide +kernel
theorem dL_law_1409 : decode cL_law 1409 = .ok (.invokestatic 166, 3) := by decide +kernel
theorem dL_law_1412 : decode cL_law 1412 = .ok (.istore 5, 2) := by decide +kernel
theorem dL_law_1414 : decode cL_law 1414 = .ok (.aload_n 2, 1) := by decide +kernel
theorem dL_law_1415 : decode cL_law 1415 = .ok (.aload_n 0, 1) := by decide +kernel
theorem dL_law_1416 : decode cL_law 1416 = .ok (.iload 4, 2) := by decide +kernel
theorem dL_law_1418 : decode cL_law 1418 = .ok (.iconst 1, 1) := by decide +kernel
theorem dL_law_1419 : decode cL_law 1419 = .ok (.iadd, 1) := by decide +kernel
theorem dL_law_1420 : decode cL_law 1420 = .ok (.iaload, 1) := by decide +kernel
theorem dL_law_1421 : decode cL_law 1421 = .ok (.invokevirtual 168, 3) := by decide +kernel
theorem dL_law_1424 : decode cL_law 1424 = .ok (.istore 6, 2) := by decide +kernel
theorem dL_law_1426 : decode cL_law 1426 = .ok (.aload_n 2, 1) := by decide +kernel
theorem dL_law_1427 : decode cL_law 1427 = .ok (.invokevirtual 97, 3) := by decide +kernel
theorem dL_law_1430 : decode cL_law 1430 = .ok (.iload 5, 2) := by decide +kernel
theorem dL_law_1432 : decode cL_law 1432 = .ok (.if_icmp .eq 5, 3) := by decide +kernel
theorem dL_law_1435 : decode cL_law 1435 = .ok (.iconst 0, 1) := by decide +kernel
theorem dL_law_1436 : decode cL_law 1436 = .ok (.ireturn, 1) := by decide +kernel
theorem dL_law_1437 : decode cL_law 1437 = .ok (.iload 5, 2) := by decide +kernel
theorem dL_law_1439 : decode cL_law 1439 = .ok (.ifCond .ne 15, 3) := by decide +kernel
theorem dL_law_1442 : decode cL_law 1442 = .ok (.aload_n 3, 1) := by decide +kernel
theorem dL_law_1443 : decode cL_law 1443 = .ok (.iconst 0, 1) := by decide +kernel
theorem dL_law_1444 : decode cL_law 1444 = .ok (.laload, 1) := by decide +kernel
theorem dL_law_1445 : decode cL_law 1445 = .ok (.iload 6, 2) := by decide +kernel
theorem dL_law_1447 : decode cL_law 1447 = .ok (.i2l, 1) := by decide +kernel
theorem dL_law_1448 : decode cL_law 1448 = .ok (.lcmp, 1) := by decide +kernel
theorem dL_law_1449 : decode cL_law 1449 = .ok (.ifCond .eq 5, 3) := by decide +kernel
theorem dL_law_1452 : decode cL_law 1452 = .ok (.iconst 0, 1) := by decide +kernel
theorem dL_law_1453 : decode cL_law 1453 = .ok (.ireturn, 1) := by decide +kernel
theorem dL_law_1454 : decode cL_law 1454 = .ok (.goto 142, 3) := by decide +kernel
theorem dL_law_1457 : decode cL_law 1457 = .ok (.aload_n 1, 1) := by decide +kernel
theorem dL_law_1458 : decode cL_law 1458 = .ok (.invokevirtual 169, 3) := by decide +kernel
theorem dL_law_1461 : decode cL_law 1461 = .ok (.aload_n 2, 1) := by decide +kernel
theorem dL_law_1462 : decode cL_law 1462 = .ok (.invokevirtual 172, 3) := by decide +kernel
theorem dL_law_1465 : decode cL_law 1465 = .ok (.if_icmp .eq 131, 3) := by decide +kernel
theorem dL_law_1468 : decode cL_law 1468 = .ok (.iconst 0, 1) := by decide +kernel
theorem dL_law_1469 : decode cL_law 1469 = .ok (.ireturn, 1) := by decide +kernel
theorem dL_law_1470 : decode cL_law 1470 = .ok (.aload_n 1, 1) := by decide +kernel
theorem dL_law_1471 : decode cL_law 1471 = .ok (.aload_n 0, 1) := by decide +kernel
theorem dL_law_1472 : decode cL_law 1472 = .ok (.iload 4, 2) := by decide +kernel
theorem dL_law_1474 : decode cL_law 1474 = .ok (.iconst 1, 1) := by decide +kernel
theorem dL_law_1475 : decode cL_law 1475 = .ok (.iadd, 1) := by decide +kernel
theorem dL_law_1476 : decode cL_law 1476 = .ok (.iaload, 1) := by decide +kernel
theorem dL_law_1477 : decode cL_law 1477 = .ok (.aload_n 0, 1) := by decide +kernel
theorem dL_law_1478 : decode cL_law 1478 = .ok (.iload 4, 2) := by decide +kernel
theorem dL_law_1480 : decode cL_law 1480 = .ok (.iconst 2, 1) := by decide +kernel
theorem dL_law_1481 : decode cL_law 1481 = .ok (.iadd, 1) := by decide +kernel
theorem dL_law_1482 : decode cL_law 1482 = .ok (.iaload, 1) := by decide +kernel
theorem dL_law_1483 : decode cL_law 1483 = .ok (.aload_n 3, 1) := by decide +kernel
theorem dL_law_1484 : decode cL_law 1484 = .ok (.invokestatic 173, 3) := by decide +kernel
theorem dL_law_1487 : decode cL_law 1487 = .ok (.istore 5, 2) := by decide +kernel
theorem dL_law_1489 : decode cL_law 1489 = .ok (.aload_n 2, 1) := by decide +kernel
theorem dL_law_1490 : decode cL_law 1490 = .ok (.aload_n 0, 1) := by decide +kernel
theorem dL_law_1491 : decode cL_law 1491 = .ok (.iload 4, 2) := by decide +kernel
theorem dL_law_1493 : decode cL_law 1493 = .ok (.iconst 1, 1) := by decide +kernel
theorem dL_law_1494 : decode cL_law 1494 = .ok (.iadd, 1) := by decide +kernel
theorem dL_law_1495 : decode cL_law 1495 = .ok (.iaload, 1) := by decide +kernel
theorem dL_law_1496 : decode cL_law 1496 = .ok (.aload_n 0, 1) := by decide +kernel
theorem dL_law_1497 : decode cL_law 1497 = .ok (.iload 4, 2) := by decide +kernel
theorem dL_law_1499 : decode cL_law 1499 = .ok (.iconst 2, 1) := by decide +kernel
theorem dL_law_1500 : decode cL_law 1500 = .ok (.iadd, 1) := by decide +kernel
theorem dL_law_1501 : decode cL_law 1501 = .ok (.iaload, 1) := by decide +kernel
theorem dL_law_1502 : decode cL_law 1502 = .ok (.invokevirtual 175, 3) := by decide +kernel
theorem dL_law_1505 : decode cL_law 1505 = .ok (.istore 6, 2) := by decide +kernel
theorem dL_law_1507 : decode cL_law 1507 = .ok (.aload_n 2, 1) := by decide +kernel
theorem dL_law_1508 : decode cL_law 1508 = .ok (.invokevirtual 97, 3) := by decide +kernel
theorem dL_law_1511 : decode cL_law 1511 = .ok (.iload 5, 2) := by decide +kernel
theorem dL_law_1513 : decode cL_law 1513 = .ok (.if_icmp .eq 5, 3) := by decide +kernel
theorem dL_law_1516 : decode cL_law 1516 = .ok (.iconst 0, 1) := by decide +kernel
theorem dL_law_1517 : decode cL_law 1517 = .ok (.ireturn, 1) := by decide +kernel
theorem dL_law_1518 : decode cL_law 1518 = .ok (.iload 5, 2) := by decide +kernel
theorem dL_law_1520 : decode cL_law 1520 = .ok (.ifCond .ne 15, 3) := by decide +kernel
theorem dL_law_1523 : decode cL_law 1523 = .ok (.aload_n 3, 1) := by decide +kernel
theorem dL_law_1524 : decode cL_law 1524 = .ok (.iconst 0, 1) := by decide +kernel
theorem dL_law_1525 : decode cL_law 1525 = .ok (.laload, 1) := by decide +kernel
theorem dL_law_1526 : decode cL_law 1526 = .ok (.iload 6, 2) := by decide +kernel
theorem dL_law_1528 : decode cL_law 1528 = .ok (.i2l, 1) := by decide +kernel
theorem dL_law_1529 : decode cL_law 1529 = .ok (.lcmp, 1) := by decide +kernel
theorem dL_law_1530 : decode cL_law 1530 = .ok (.ifCond .eq 5, 3) := by decide +kernel
theorem dL_law_1533 : decode cL_law 1533 = .ok (.iconst 0, 1) := by decide +kernel
theorem dL_law_1534 : decode cL_law 1534 = .ok (.ireturn, 1) := by decide +kernel
theorem dL_law_1535 : decode cL_law 1535 = .ok (.goto 61, 3) := by decide +kernel
theorem dL_law_1538 : decode cL_law 1538 = .ok (.aload_n 1, 1) := by decide +kernel
theorem dL_law_1539 : decode cL_law 1539 = .ok (.aload_n 3, 1) := by decide +kernel
theorem dL_law_1540 : decode cL_law 1540 = .ok (.invokestatic 176, 3) := by decide +kernel
theorem dL_law_1543 : decode cL_law 1543 = .ok (.istore 5, 2) := by decide +kernel
theorem dL_law_1545 : decode cL_law 1545 = .ok (.aload_n 2, 1) := by decide +kernel
theorem dL_law_1546 : decode cL_law 1546 = .ok (.invokevirtual 178, 3) := by decide +kernel
theorem dL_law_1549 : decode cL_law 1549 = .ok (.istore 6, 2) := by decide +kernel
theorem dL_law_1551 : decode cL_law 1551 = .ok (.aload_n 2, 1) := by decide +kernel
theorem dL_law_1552 : decode cL_law 1552 = .ok (.invokevirtual 97, 3) := by decide +kernel
theorem dL_law_1555 : decode cL_law 1555 = .ok (.iload 5, 2) := by decide +kernel
theorem dL_law_1557 : decode cL_law 1557 = .ok (.if_icmp .eq 5, 3) := by decide +kernel
theorem dL_law_1560 : decode cL_law 1560 = .ok (.iconst 0, 1) := by decide +kernel
theorem dL_law_1561 : decode cL_law 1561 = .ok (.ireturn, 1) := by decide +kernel
theorem dL_law_1562 : decode cL_law 1562 = .ok (.iload 5, 2) := by decide +kernel
theorem dL_law_1564 : decode cL_law 1564 = .ok (.ifCond .ne 15, 3) := by decide +kernel
theorem dL_law_1567 : decode cL_law 1567 = .ok (.aload_n 3, 1) := by decide +kernel
theorem dL_law_1568 : decode cL_law 1568 = .ok (.iconst 0, 1) := by decide +kernel
theorem dL_law_1569 : decode cL_law 1569 = .ok (.laload, 1) := by decide +kernel
theorem dL_law_1570 : decode cL_law 1570 = .ok (.iload 6, 2) := by decide +kernel
theorem dL_law_1572 : decode cL_law 1572 = .ok (.i2l, 1) := by decide +kernel
theorem dL_law_1573 : decode cL_law 1573 = .ok (.lcmp, 1) := by decide +kernel
theorem dL_law_1574 : decode cL_law 1574 = .ok (.ifCond .eq 5, 3) := by decide +kernel
theorem dL_law_1577 : decode cL_law 1577 = .ok (.iconst 0, 1) := by decide +kernel
theorem dL_law_1578 : decode cL_law 1578 = .ok (.ireturn, 1) := by decide +kernel
theorem dL_law_1579 : decode cL_law 1579 = .ok (.goto 17, 3) := by decide +kernel
theorem dL_law_1582 : decode cL_law 1582 = .ok (.aload_n 1, 1) := by decide +kernel
theorem dL_law_1583 : decode cL_law 1583 = .ok (.invokevirtual 179, 3) := by decide +kernel
theorem dL_law_1586 : decode cL_law 1586 = .ok (.aload_n 2, 1) := by decide +kernel
theorem dL_law_1587 : decode cL_law 1587 = .ok (.invokevirtual 183, 3) := by decide +kernel
theorem dL_law_1590 : decode cL_law 1590 = .ok (.lcmp, 1) := by decide +kernel
theorem dL_law_1591 : decode cL_law 1591 = .ok (.ifCond .eq 5, 3) := by decide +kernel
theorem dL_law_1594 : decode cL_law 1594 = .ok (.iconst 0, 1) := by decide +kernel
theorem dL_law_1595 : decode cL_law 1595 = .ok (.ireturn, 1) := by decide +kernel
theorem dL_law_1596 : decode cL_law 1596 = .ok (.iinc 4 4, 3) := by decide +kernel
theorem dL_law_1599 : decode cL_law 1599 = .ok (.goto (-1576), 3) := by decide +kernel
theorem dL_law_1602 : decode cL_law 1602 = .ok (.iconst 1, 1) := by decide +kernel
theorem dL_law_1603 : decode cL_law 1603 = .ok (.ireturn, 1) := by decide +kernel
end
section
/-! ===== the base layer: one pool of numbered cells, everything that was made since the law began ===== -/
def zW (w : Cond) : Prop := w ∈ lw_tbl ∧ goodWord w = true
/-- the place: the law's first state, its arguments, the classes' numbers and slots, the array classes (int, long, Machine, World) -/
abbrev zG : Type := State × Array Value × (Nat → ClassId) × (Nat → Nat → Nat) × ClassId × ClassId × ClassId × ClassId
abbrev zG.s0 (G : zG) : State := G.1
abbrev zG.a0 (G : zG) : Array Value := G.2.1
abbrev zG.D (G : zG) : va_G := (G.2.2.1, G.2.2.2.1)
abbrev zG.cI (G : zG) : ClassId := G.2.2.2.2.1
abbrev zG.cJ (G : zG) : ClassId := G.2.2.2.2.2.1
abbrev zG.cM (G : zG) : ClassId := G.2.2.2.2.2.2.1
abbrev zG.cW (G : zG) : ClassId := G.2.2.2.2.2.2.2
def zG.h (G : zG) : Nat := G.s0.heap.size
abbrev zG.tys (G : zG) : List (ClassId × FieldType) := [(G.cI, .int), (G.cJ, .long), (G.cM, .object RX0), (G.cW, .object RX2)]
def zA (G : zG) : Nat → Prop := fun q => G.s0.heap.size ≤ q
def zpl (h N : Nat) (F : Nat → va_E) : va_W := (List.range N).map (fun i => (h + i, F i))
theorem zpl_at {h N : Nat} {F : Nat → va_E} {i : Nat} (hi : i < N) : (zpl h N F)[i]? = some (h + i, F i) := by
  simp [zpl, List.getElem?_map, List.getElem?_range hi]
theorem zpl_lt {h N : Nat} {F : Nat → va_E} {i : Nat} {q : Nat × va_E} (hq : (zpl h N F)[i]? = some q) : i < N ∧ q = (h + i, F i) := by
  have hl := (List.getElem?_eq_some_iff.mp hq).1
  have hi : i < N := by simpa [zpl] using hl
  rw [zpl_at hi] at hq
  exact ⟨hi, (Option.some.inj hq).symm⟩
theorem zpl_len {h N : Nat} {F : Nat → va_E} : (zpl h N F).length = N := by simp [zpl]
theorem zpl_ext {h N : Nat} {F : Nat → va_E} {ws : va_W} (hl : ws.length = N) (he : ∀ i, i < N → ws[i]? = some (h + i, F i)) : ws = zpl h N F := by
  apply List.ext_getElem?
  intro i
  by_cases hi : i < N
  · rw [he i hi, zpl_at hi]
  · rw [List.getElem?_eq_none (by omega), List.getElem?_eq_none (by rw [zpl_len]; omega)]
theorem zpl_set {h N : Nat} {F : Nat → va_E} {i : Nat} {e : va_E} : (zpl h N F).set i (h + i, e) = zpl h N (va_up F i e) := by
  refine zpl_ext (by rw [List.length_set, zpl_len]) (fun j hj => ?_)
  by_cases hji : j = i
  · subst hji
    rw [List.getElem?_set_self (by rw [zpl_len]; exact hj), va_up_self]
  · rw [List.getElem?_set_ne (Ne.symm hji), zpl_at hj, va_up_ne _ _ hji]
theorem zpl_congr {h N : Nat} {F F' : Nat → va_E} (he : ∀ i, i < N → F i = F' i) : zpl h N F = zpl h N F' :=
  zpl_ext zpl_len (fun i hi => by rw [zpl_at hi, he i hi])
theorem zpl_push {h N : Nat} {F : Nat → va_E} {e : va_E} : zpl h N F ++ [(h + N, e)] = zpl h (N + 1) (va_up F N e) := by
  refine zpl_ext (by simp [zpl_len]) (fun j hj => ?_)
  by_cases hjn : j < N
  · rw [List.getElem?_append_left (by rw [zpl_len]; exact hjn), zpl_at hjn, va_up_ne _ _ (by omega)]
  · have : j = N := by omega
    subst this
    rw [List.getElem?_append_right (by rw [zpl_len]; exact Nat.le_refl _), zpl_len, Nat.sub_self, va_up_self]
    rfl
theorem zpl_D {G : zG} {N : Nat} {F : Nat → va_E} : va_D (zA G) (zpl G.h N F) := by
  refine ⟨fun i j p q hp hq he => ?_, fun k q hk => ?_⟩
  · obtain ⟨-, rfl⟩ := zpl_lt hp
    obtain ⟨-, rfl⟩ := zpl_lt hq
    have he : G.h + i = G.h + j := he
    omega
  · obtain ⟨-, rfl⟩ := zpl_lt hk
    exact Nat.le_add_right _ _
/-- what the cells hold: whole numbers, by cell and place; longs, by cell and place -/
abbrev zM : Type := (Nat → Nat → Int32) × (Nat → Nat → Int64)
abbrev zLay : Type := Nat → (Nat → Int32) → (Nat → Int64) → va_E
def zL (Λ : zLay) (z : zM) : Nat → va_E := fun i => Λ i (z.1 i) (z.2 i)
def zr (z : zM) (i : Nat) (f : Nat → Int32) : zM := (va_up z.1 i f, z.2)
def zi (z : zM) (i j : Nat) (v : Int32) : zM := zr z i (upd (z.1 i) j v)
def zl (z : zM) (i j : Nat) (v : Int64) : zM := (z.1, va_up z.2 i (vp_updL (z.2 i) j v))
theorem zr_s (z : zM) (i : Nat) (f : Nat → Int32) : (zr z i f).1 i = f := by simp [zr, va_up]
theorem zr_n (z : zM) {i k : Nat} (f : Nat → Int32) (h : k ≠ i) : (zr z i f).1 k = z.1 k := by simp [zr, va_up, h]
theorem zr_2 (z : zM) (i : Nat) (f : Nat → Int32) : (zr z i f).2 = z.2 := rfl
theorem zi_at (z : zM) (i j : Nat) (v : Int32) (a b : Nat) : (zi z i j v).1 a b = if a = i ∧ b = j then v else z.1 a b := by
  by_cases h1 : a = i
  · subst h1
    simp [zi, zr_s, upd]
  · simp [zi, zr_n _ _ h1, h1]
theorem zi_2 (z : zM) (i j : Nat) (v : Int32) : (zi z i j v).2 = z.2 := rfl
theorem zL_r {Λ : zLay} {z : zM} {h N i : Nat} {f : Nat → Int32} {e : va_E} (he : Λ i f (z.2 i) = e) : (zpl h N (zL Λ z)).set i (h + i, e) = zpl h N (zL Λ (zr z i f)) := by
  rw [zpl_set]
  refine zpl_congr (fun k _ => ?_)
  by_cases hk : k = i
  · subst hk
    rw [va_up_self, ← he]
    simp [zL, zr_s, zr_2]
  · rw [va_up_ne _ _ hk]
    simp [zL, zr_n _ _ hk, zr_2]
theorem zL_l {Λ : zLay} {z : zM} {h N i j : Nat} {v : Int64} {e : va_E} (he : Λ i (z.1 i) (vp_updL (z.2 i) j v) = e) : (zpl h N (zL Λ z)).set i (h + i, e) = zpl h N (zL Λ (zl z i j v)) := by
  rw [zpl_set]
  refine zpl_congr (fun k _ => ?_)
  by_cases hk : k = i
  · subst hk
    rw [va_up_self, ← he]
    simp [zL, zl, va_up]
  · rw [va_up_ne _ _ hk]
    simp [zL, zl, va_up, hk]
def zOK (G : zG) (l : Launch) : Prop := (∀ w ∈ lw_tbl, w.before G.a0 G.s0 = true) ∧ va_K G.D vwCl G.tys G.s0 ∧ l.flags = flags0 ∧ (Jvm.Cond.and given_1 narrow_1).before G.a0 G.s0 = true
def zE (G : zG) (U : State) : Prop := G.s0.WarmedH U.vm ∧ va_F (zA G) G.s0 U
theorem zword {G : zG} {l : Launch} {U : State} {w : Cond} {a : Array Value} (hO : zOK G l) (hE : zE G U) (hw : zW w) : w.before a U = true := word_at hE.1 (good_of_word hw.2) (hO.1 w hw.1)
theorem zK {G : zG} {l : Launch} {U : State} (hO : zOK G l) (hE : zE G U) : va_K G.D vwCl G.tys U := va_K.moved hE.1.alike hO.2.1
theorem zE.warm {G : zG} {s U : State} (hE : zE G s) (hW : s.WarmedH U.vm) (hF : va_F (zA G) s U) : zE G U :=
  ⟨State.WarmedH.trans hE.1 hW, ⟨Nat.le_trans hE.2.1 hF.1, fun q h1 h2 => by rw [hF.2 q (Nat.lt_of_lt_of_le h1 hE.2.1) h2]; exact hE.2.2 q h1 h2⟩⟩
/-- a walk's standing facts -/
def zC (G : zG) (l : Launch) (p : Program) (s : State) (m : MethodId) (meth : Method) (c : Code) (cc : ByteArray) (nL : Nat) (own : String) (ret : Option FieldType) : Prop :=
  p.tables.exec = Jvm.exec ∧ c.code = cc ∧ c.maxLocals = nL ∧ s.vm.findClass own = some m.cls ∧ meth.sig.returnType = ret ∧ meth.locks = false ∧ zE G s ∧ zOK G l
def zP (G : zG) (N : Nat) (Λ : zLay) (z : zM) (H : Heap) : Prop := va_P G.D vwCl (zpl G.h N (zL Λ z)) H
def zS (G : zG) (N : Nat) (Λ : zLay) (z : zM) (s : State) (H : Heap) (locs : List Loc) : Prop := zP G N Λ z H ∧ va_S (zA G) s.heap H locs
def zPc (G : zG) (N : Nat) (Λ : zLay) (av : List Value) (z : zM) : Array Value → State → Prop := va_Pc av (fun U => zE G U ∧ zP G N Λ z U.heap)
def zQc (G : zG) (N : Nat) (Λ : zLay) (r : Option Value) (z : zM) : Array Value → State → Outcome → State → Prop := fun _ st oc t => oc = .returned r ∧ zP G N Λ z t.heap ∧ va_F (zA G) st t
def zR (k : Nat) : Room := { frames := k, cells := 0, slots := 0, locals := 30 * k }
def zRx (k : Nat) : Room := { frames := k, cells := 1, slots := 6, locals := 30 * k }
/-- a method returns r and leaves the cells at z' -/
def zMet (G : zG) (N : Nat) (Λ : zLay) (l : Launch) (y : MethodName) (cc : ByteArray) (nL : Nat) (ret : Option FieldType) (k : Nat) (av : List Value) (z : zM) (r : Option Value) (z' : zM) : Prop :=
  Met l y [.code y cc nL ret] (zR k) (zPc G N Λ av z) (zQc G N Λ r z') 0 0 (zA G)
theorem zPc_blind {G : zG} {N : Nat} {Λ : zLay} {av : List Value} {z : zM} : FrameBlind (zPc G N Λ av z) := fun a U g mk h => ⟨h.1, ⟨h.2.1.1, h.2.1.2⟩, h.2.2⟩
theorem zMet_of {G : zG} {N : Nat} {Λ : zLay} {l : Launch} {y : MethodName} {cc : ByteArray} {nL : Nat} {ret : Option FieldType} {k : Nat} {av : List Value} {z z' : zM} {r : Option Value} (hO : zOK G l) (hy : plainName y.cls = true) (hsl : (lg_sl av).length ≤ nL)
    (body : ∀ (p : Program) (e : Env) (s : State) (m : MethodId) (below : List Frame) (meth : Method) (c : Code) (ls : Array Slot), zC G l p s m meth c cc nL y.cls ret → zS G N Λ z s s.heap [] → lv_has ls nL (lv_args 0 av) →
      W p l e (zR k) s m av.toArray below meth c s.heap [] 0 0 (MQ below (zQc G N Λ r z') av.toArray s 0 0 (zA G)) (F0 m 0 ls [])) : zMet G N Λ l y cc nL ret k av z r z' := by
  refine Met.ofW (cc := cc) (maxL := nL) (ret := ret) hy rfl ?_
  intro p e s m args below meth c s₁ B hml hv
  obtain ⟨rfl, hE, hP⟩ := hv
  have hl := lv_entry av (n := nL) hsl
  rw [lg_entry_eq]
  exact body p e s m below meth c _ ⟨B.exec, B.bytes, hml, findClass_of_methodNamed B.named, B.returns, B.notSynchronized, hE, hO⟩ ⟨hP, va_S.rf⟩ hl
end
section
/-! ===== rows over the pool ===== -/
section ZROWS
variable {p : Program} {l : Launch} {e : Env} {R : Room} {s : State} {m : MethodId} {args : Array Value} {below : List Frame} {meth : Method} {c : Code} {H : Heap} {locs : List Loc} {cells slots : Nat} {Q : State → Prop}
variable {cc : ByteArray} {pc : Nat} {ls : Array Slot} {rest : List Value} {G : zG} {N : Nat} {Λ : zLay} {z z' : zM} {nL : Nat} {own : String} {ret : Option FieldType}
theorem zC.x (C : zC G l p s m meth c cc nL own ret) : p.tables.exec = Jvm.exec := C.1
theorem zC.b (C : zC G l p s m meth c cc nL own ret) : c.code = cc := C.2.1
theorem zC.ml (C : zC G l p s m meth c cc nL own ret) : c.maxLocals = nL := C.2.2.1
theorem zC.ow (C : zC G l p s m meth c cc nL own ret) : s.vm.findClass own = some m.cls := C.2.2.2.1
theorem zC.rt (C : zC G l p s m meth c cc nL own ret) : meth.sig.returnType = ret := C.2.2.2.2.1
theorem zC.lk (C : zC G l p s m meth c cc nL own ret) : meth.locks = false := C.2.2.2.2.2.1
theorem zC.E (C : zC G l p s m meth c cc nL own ret) : zE G s := C.2.2.2.2.2.2.1
theorem zC.O (C : zC G l p s m meth c cc nL own ret) : zOK G l := C.2.2.2.2.2.2.2
theorem zC.w (C : zC G l p s m meth c cc nL own ret) {w : Cond} (hw : zW w) : w.before args s = true := zword C.O C.E hw
def zFld (own : String) (index ci k : Nat) : Prop := ∃ (C : String) (T : u_T) (n : Nat), vwCl[ci]? = some (C, T, n) ∧ k < n ∧ zW (.fieldLink own index C (T k).2.1 (T k).2.2.1) ∧ (T k).1 = C ∧ ∀ w ∈ u_ws C T n, zW w
theorem z_get (C : zC G l p s m meth c cc nL own ret) (hw : zS G N Λ z s H locs) {i index ci k : Nat} {fs : List Value} {v : Value} (hi : i < N) (he : Λ i (z.1 i) (z.2 i) = .inr (ci, fs)) (hf : zFld own index ci k) (hv : fs[k]? = some v) (hdg : decode cc pc = .ok (.getfield index, 3))
    (kk : W p l e R s m args below meth c H locs cells slots Q (F0 m (pc + 3) ls (v :: rest))) : W p l e R s m args below meth c H locs cells slots Q (F0 m pc ls (.ref (G.h + i) :: rest)) := by
  obtain ⟨Cn, T, n, hc, hk, hl, h1, hu⟩ := hf
  exact va_get (D := G.D) (Ts := u_ws Cn T n) C.x C.b (fun w hw' => C.w (hu w hw')) (fun _ h => h) C.ow (zK C.O C.E) hw.1 i (by rw [zpl_at hi]; exact congrArg (fun e => some (G.h + i, e)) he) hc k hk (C.w hl) (fun x hx => by rw [h1] at hx; exact hx) hv hdg kk
def zPut (own : String) (index ci k : Nat) (ty : FieldType) : Prop := ∃ (C : String) (T : u_T) (n : Nat) (ty0 : Nat → FieldType), vwCl[ci]? = some (C, T, n) ∧ k < n ∧ zW (.fieldLink own index C (T k).2.1 (T k).2.2.1) ∧ (T k).1 = C ∧ (T k).2.2.2 = false ∧ parseFieldDescriptor (T k).2.2.1 = some ty ∧ (∀ w ∈ u_ws C T n, zW w) ∧ (∀ k, k < n → parseFieldDescriptor (T k).2.2.1 = some (ty0 k)) ∧ ∀ a, a < n → ∀ b, b < n → a ≠ b → (T a).2.1 ≠ (T b).2.1
theorem z_put (C : zC G l p s m meth c cc nL own ret) (hw : zS G N Λ z s H locs) {i index ci k : Nat} {fs : List Value} {x : Int32} {ty : FieldType} (hi : i < N) (he : Λ i (z.1 i) (z.2 i) = .inr (ci, fs)) (hf : zPut own index ci k ty) (he' : Λ i (upd (z.1 i) k x) (z.2 i) = .inr (ci, fs.set k (.int x))) (hn : narrow ty (.int x) = .int x) (hfit : fits ty (.int x) = true) (hl : k < fs.length) (hdg : decode cc pc = .ok (.putfield index, 3))
    (kk : ∀ (H : Heap) (locs : List Loc), zS G N Λ (zi z i k x) s H locs → W p l e R s m args below meth c H locs cells slots Q (F0 m (pc + 3) ls rest)) : W p l e R s m args below meth c H locs cells slots Q (F0 m pc ls (.int x :: .ref (G.h + i) :: rest)) := by
  obtain ⟨Cn, T, n, ty0, hc, hk, hlk, h1, hfin, hty, hu, hty0, hnm⟩ := hf
  refine va_put (D := G.D) (Ts := u_ws Cn T n) C.x C.b (fun w hw' => C.w (hu w hw')) (fun _ h => h) ty0 hty0 hnm C.ow (zK C.O C.E) hw.1 zpl_D hw.2 i (by rw [zpl_at hi]; exact congrArg (fun e => some (G.h + i, e)) he) hc k hk (C.w hlk) (fun x hx => by rw [h1] at hx; exact hx) hfin hty hn hfit hl hdg (fun H1 locs1 hP hD hS => kk H1 locs1 ⟨?_, hS⟩)
  rw [zL_r he'] at hP
  exact hP
/-- a long field -/
theorem z_putl (C : zC G l p s m meth c cc nL own ret) (hw : zS G N Λ z s H locs) {i index ci k : Nat} {fs : List Value} {x : Int64} (hi : i < N) (he : Λ i (z.1 i) (z.2 i) = .inr (ci, fs)) (hf : zPut own index ci k .long) (he' : Λ i (z.1 i) (vp_updL (z.2 i) k x) = .inr (ci, fs.set k (.long x))) (hl : k < fs.length) (hdg : decode cc pc = .ok (.putfield index, 3))
    (kk : ∀ (H : Heap) (locs : List Loc), zS G N Λ (zl z i k x) s H locs → W p l e R s m args below meth c H locs cells slots Q (F0 m (pc + 3) ls rest)) : W p l e R s m args below meth c H locs cells slots Q (F0 m pc ls (.long x :: .ref (G.h + i) :: rest)) := by
  obtain ⟨Cn, T, n, ty0, hc, hk, hlk, h1, hfin, hty, hu, hty0, hnm⟩ := hf
  refine va_put (D := G.D) (Ts := u_ws Cn T n) C.x C.b (fun w hw' => C.w (hu w hw')) (fun _ h => h) ty0 hty0 hnm C.ow (zK C.O C.E) hw.1 zpl_D hw.2 i (by rw [zpl_at hi]; exact congrArg (fun e => some (G.h + i, e)) he) hc k hk (C.w hlk) (fun x hx => by rw [h1] at hx; exact hx) hfin hty rfl rfl hl hdg (fun H1 locs1 hP hD hS => kk H1 locs1 ⟨?_, hS⟩)
  rw [zL_l he'] at hP
  exact hP
/-- int arrays, long arrays, arrays of references -/
def zIA (G : zG) (Λ : zLay) (i n : Nat) : Prop := ∀ f t, Λ i f t = .inl (G.cI, n, .inl f)
def zJA (G : zG) (Λ : zLay) (i n : Nat) : Prop := ∀ f t, Λ i f t = .inl (G.cJ, n, .inr (.inl t))
def zRA (cA : ClassId) (Λ : zLay) (i n : Nat) (g : Nat → Option Nat) : Prop := ∀ f t, Λ i f t = .inl (cA, n, .inr (.inr (.inr (.inr g))))
theorem z_iald (C : zC G l p s m meth c cc nL own ret) (hw : zS G N Λ z s H locs) {i n : Nat} {j : Int32} (hi : i < N) (he : zIA G Λ i n) (hin : vp_in j n) (hdg : decode cc pc = .ok (.iaload, 1))
    (kk : W p l e R s m args below meth c H locs cells slots Q (F0 m (pc + 1) ls (.int (z.1 i j.toNatClampNeg) :: rest))) : W p l e R s m args below meth c H locs cells slots Q (F0 m pc ls (.int j :: .ref (G.h + i) :: rest)) :=
  va_iald (D := G.D) (n := n) (f := z.1 i) C.x C.b (zK C.O C.E) hw.1 i 0 (by rw [zpl_at hi]; exact congrArg (fun e => some (G.h + i, e)) (he _ _)) rfl hin hdg kk
theorem z_iast (C : zC G l p s m meth c cc nL own ret) (hw : zS G N Λ z s H locs) {i n : Nat} {j x : Int32} (hi : i < N) (he : zIA G Λ i n) (hin : vp_in j n) (hdg : decode cc pc = .ok (.iastore, 1))
    (kk : ∀ (H : Heap) (locs : List Loc), zS G N Λ (zi z i j.toNatClampNeg x) s H locs → W p l e R s m args below meth c H locs cells slots Q (F0 m (pc + 1) ls rest)) : W p l e R s m args below meth c H locs cells slots Q (F0 m pc ls (.int x :: .int j :: .ref (G.h + i) :: rest)) := by
  refine va_iast (D := G.D) (n := n) (f := z.1 i) C.x C.b (zK C.O C.E) hw.1 zpl_D hw.2 i 0 (by rw [zpl_at hi]; exact congrArg (fun e => some (G.h + i, e)) (he _ _)) rfl hin hdg (fun H1 locs1 hP hD hS => kk H1 locs1 ⟨?_, hS⟩)
  rw [zL_r (he _ _)] at hP
  exact hP
theorem z_lald (C : zC G l p s m meth c cc nL own ret) (hw : zS G N Λ z s H locs) {i n : Nat} {j : Int32} (hi : i < N) (he : zJA G Λ i n) (hin : vp_in j n) (hdg : decode cc pc = .ok (.laload, 1))
    (kk : W p l e R s m args below meth c H locs cells slots Q (F0 m (pc + 1) ls (.long (z.2 i j.toNatClampNeg) :: rest))) : W p l e R s m args below meth c H locs cells slots Q (F0 m pc ls (.int j :: .ref (G.h + i) :: rest)) :=
  va_lald (D := G.D) (n := n) (f := z.2 i) C.x C.b (zK C.O C.E) hw.1 i 1 (by rw [zpl_at hi]; exact congrArg (fun e => some (G.h + i, e)) (he _ _)) rfl hin hdg kk
theorem z_last (C : zC G l p s m meth c cc nL own ret) (hw : zS G N Λ z s H locs) {i n : Nat} {j : Int32} {x : Int64} (hi : i < N) (he : zJA G Λ i n) (hin : vp_in j n) (hdg : decode cc pc = .ok (.lastore, 1))
    (kk : ∀ (H : Heap) (locs : List Loc), zS G N Λ (zl z i j.toNatClampNeg x) s H locs → W p l e R s m args below meth c H locs cells slots Q (F0 m (pc + 1) ls rest)) : W p l e R s m args below meth c H locs cells slots Q (F0 m pc ls (.long x :: .int j :: .ref (G.h + i) :: rest)) := by
  refine va_last (D := G.D) (n := n) (f := z.2 i) C.x C.b (zK C.O C.E) hw.1 zpl_D hw.2 i 1 (by rw [zpl_at hi]; exact congrArg (fun e => some (G.h + i, e)) (he _ _)) rfl hin hdg (fun H1 locs1 hP hD hS => kk H1 locs1 ⟨?_, hS⟩)
  rw [zL_l (he _ _)] at hP
  exact hP
theorem z_aaldM (C : zC G l p s m meth c cc nL own ret) (hw : zS G N Λ z s H locs) {i n a : Nat} {g : Nat → Option Nat} {j : Int32} (hi : i < N) (he : zRA G.cM Λ i n g) (hin : vp_in j n) (hv : g j.toNatClampNeg = some a) (hdg : decode cc pc = .ok (.aaload, 1))
    (kk : W p l e R s m args below meth c H locs cells slots Q (F0 m (pc + 1) ls (.ref a :: rest))) : W p l e R s m args below meth c H locs cells slots Q (F0 m pc ls (.int j :: .ref (G.h + i) :: rest)) :=
  va_aldq (D := G.D) (n := n) (f := g) C.x C.b (zK C.O C.E) hw.1 i 2 (by rw [zpl_at hi]; exact congrArg (fun e => some (G.h + i, e)) (he _ _)) rfl hin hdg (by rw [hv]; exact kk)
theorem z_aaldW (C : zC G l p s m meth c cc nL own ret) (hw : zS G N Λ z s H locs) {i n a : Nat} {g : Nat → Option Nat} {j : Int32} (hi : i < N) (he : zRA G.cW Λ i n g) (hin : vp_in j n) (hv : g j.toNatClampNeg = some a) (hdg : decode cc pc = .ok (.aaload, 1))
    (kk : W p l e R s m args below meth c H locs cells slots Q (F0 m (pc + 1) ls (.ref a :: rest))) : W p l e R s m args below meth c H locs cells slots Q (F0 m pc ls (.int j :: .ref (G.h + i) :: rest)) :=
  va_aldq (D := G.D) (n := n) (f := g) C.x C.b (zK C.O C.E) hw.1 i 3 (by rw [zpl_at hi]; exact congrArg (fun e => some (G.h + i, e)) (he _ _)) rfl hin hdg (by rw [hv]; exact kk)
def zCpy (own : String) (index : Nat) : Prop := zW (.methodLink own index arraycopyName) ∧ zW (.native arraycopyName) ∧ zW (.static arraycopyName) ∧ zW (.initialized "java/lang/System")
theorem z_copy (C : zC G l p s m meth c cc nL own ret) (hw : zS G N Λ z s H locs) {lv : List (Nat × Value)} (hl : lv_has ls nL lv) {i k n0 n1 index : Nat} {sp dp n : Int32} (hi : i < N) (he : zIA G Λ i n0) (hk : k < N) (hek : zIA G Λ k n1) (hf : zCpy own index) (h1 : ¬ sp < 0) (h2 : ¬ dp < 0) (h3 : ¬ n < 0) (h4 : sp.toNatClampNeg + n.toNatClampNeg ≤ n0) (h5 : dp.toNatClampNeg + n.toNatClampNeg ≤ n1)
    (hframes : 1 ≤ R.frames) (hlocals : (rest.map fun v => v.category).sum + (nativeFrameWords "java/lang/System" "arraycopy" 5 + 11) ≤ R.locals) (hdg : decode cc pc = .ok (.invokestatic index, 3))
    (kk : ∀ (H : Heap) (locs : List Loc), zS G N Λ (zr z k (va_cpy (z.1 i) (z.1 k) sp.toNatClampNeg dp.toNatClampNeg n.toNatClampNeg)) s H locs → W p l e R s m args below meth c H locs cells slots Q (F0 m (pc + 3) ls rest)) : W p l e R s m args below meth c H locs cells slots Q (F0 m pc ls (.int n :: .int dp :: .ref (G.h + k) :: .int sp :: .ref (G.h + i) :: rest)) := by
  refine va_copyi (D := G.D) (ty := .int) (f := z.1 i) (g := z.1 k) C.x C.b (C.ml.trans hl.1.symm) C.ow (C.w hf.1) (C.w hf.2.1) (C.w hf.2.2.1) (C.w hf.2.2.2) (zK C.O C.E) hw.1 zpl_D hw.2 i k 0 0 (by rw [zpl_at hi]; exact congrArg (fun e => some (G.h + i, e)) (he _ _)) (by rw [zpl_at hk]; exact congrArg (fun e => some (G.h + k, e)) (hek _ _)) rfl rfl rfl h1 h2 h3 h4 h5 (fun _ _ => rfl) hframes hlocals hdg (fun H1 locs1 hP hD hS => kk H1 locs1 ⟨?_, hS⟩)
  rw [zL_r (hek _ _)] at hP
  exact hP
/-- calls -/
def zNm (y : MethodName) (n : Nat) : Prop := (y.cls ≠ "java/lang/invoke/MethodHandle" ∧ y.cls ≠ "java/lang/invoke/VarHandle") ∧ (parseMethodDescriptor y.desc).map (fun d => d.parameters.length) = some n
def zIv (own : String) (index ci : Nat) (y : MethodName) (cy : ByteArray) (nLy : Nat) (rety : Option FieldType) (n : Nat) : Prop := ∃ r : vw_C, vwCl[ci]? = some r ∧ zW (.methodLink own index y) ∧ zW (.instanceMethod y) ∧ zW (.selects r.1 y y) ∧ zW (.initialized y.cls) ∧ zW (.code y cy nLy rety) ∧ zNm y n
def zIs (own : String) (index : Nat) (y : MethodName) (cy : ByteArray) (nLy : Nat) (rety : Option FieldType) (n : Nat) : Prop := zW (.methodLink own index y) ∧ zW (.static y) ∧ zW (.initialized y.cls) ∧ zW (.code y cy nLy rety) ∧ zNm y n
def zIn (own : String) (index : Nat) (y : MethodName) (host : String) (cy : ByteArray) (nLy : Nat) (rety : Option FieldType) (n : Nat) : Prop := Cond.methodLinkNest own index y host ∈ lw_tbl ∧ zW (.static y) ∧ zW (.initialized y.cls) ∧ zW (.code y cy nLy rety) ∧ zNm y n
theorem zNm.n {y : MethodName} {n : Nat} (h : zNm y n) : ∀ sig, parseMethodDescriptor y.desc = some sig → n = sig.parameters.length := fun sig hs => by
  have h2 := h.2
  rw [hs] at h2
  exact (Option.some.inj h2).symm
theorem zCode {y : MethodName} {cy : ByteArray} {nLy : Nat} {rety : Option FieldType} (C : zC G l p s m meth c cc nL own ret) (h : zW (.code y cy nLy rety)) : ∀ w ∈ [Cond.code y cy nLy rety], ∀ (a' : Array Value) (U : State), s.WarmedH U.vm → w.before a' U = true := fun w hw a' U hW => by
  rw [List.mem_singleton.mp hw]
  exact word_at hW (good_of_word h.2) (C.w (args := #[]) h)
/-- behind a call that returned -/
theorem z_back {mc ms : Nat} {r : Option Value} {g : JFrame} {a : Array Value} (C : zC G l p s m meth c cc nL own ret) (hw : zS G N Λ z s H locs) (hr : va_Run p l e R s m args below meth c H locs cells slots mc ms g rest (zQc G N Λ r z' a) (zA G))
    (kk : ∀ (H : Heap) (locs : List Loc), zS G N Λ z' s H locs → W p l e R s m args below meth c H locs (cells + mc) (slots + ms) Q { g with pc := g.pc + 3, stack := r.toList ++ rest }) : W p l e R s m args below meth c H locs cells slots Q g := by
  intro T hT X
  obtain ⟨v, st₀, t, T', L, h0, X', hL, e1, e2, ⟨hv, hP, hz, hk⟩, st⟩ := hr T hT X
  cases hv
  rw [h0] at hz hk
  obtain ⟨t2, a1, b1⟩ := kk T'.heap (locs ++ L) ⟨by rw [e1]; exact hP, Nat.le_trans hw.2.1 (by rw [e1]; exact hz), fun q h1 h2 => by rw [e1, hk q (Nat.lt_of_lt_of_le h1 hw.2.1) h2]; exact hw.2.2.1 q h1 h2, fun q hq => by
      rcases List.mem_append.mp hq with h | h
      · exact hw.2.2.2 q h
      · exact hL q h⟩ T' rfl X'
  exact ⟨t2, st t2 a1, b1⟩
theorem zEs (C : zC G l p s m meth c cc nL own ret) (hw : zS G N Λ z s H locs) {U : State} (hU : U.heap = H) (hW : s.WarmedH U.vm) : zE G U := C.E.warm hW (hw.2.F hU)
theorem z_runV {y : MethodName} {cy : ByteArray} {nLy n index i ci k : Nat} {rety : Option FieldType} {As : List Value} {fs : List Value} {lv : List (Nat × Value)} {r : Option Value} (C : zC G l p s m meth c cc nL own ret) (hw : zS G N Λ z s H locs) (hl : lv_has ls nL lv) (hM : zMet G N Λ l y cy nLy rety k (.ref (G.h + i) :: As) z r z') (iv : zIv own index ci y cy nLy rety n) (hi : i < N) (he : Λ i (z.1 i) (z.2 i) = .inr (ci, fs)) (hn : As.length = n) (hR : k + 1 ≤ R.frames ∧ 8 + (nLy + 11) + 30 * k ≤ R.locals) (hW : (rest.map fun v => v.category).sum ≤ 8) (hc0 : cells ≤ R.cells) (hs0 : slots ≤ R.slots) (hdg : decode cc pc = .ok (.invokevirtual index, 3))
    : va_Run p l e R s m args below meth c H locs cells slots 0 0 (F0 m pc ls (As.reverse ++ .ref (G.h + i) :: rest)) rest (zQc G N Λ r z' (Value.ref (G.h + i) :: As).toArray) (zA G) := by
  obtain ⟨rc, hc, h1, h2, h3, h4, h5, h6⟩ := iv
  exact va_runV (Ts := []) (C := rc.1) (n := n) ⟨C.x, C.b, C.ml, C.ow, fun _ h => by cases h⟩ hM ⟨⟨rfl, rfl, hR.1, hR.2, zCode C h5, List.mem_singleton.mpr rfl, C.w h5, C.w h4, h6.1, h6.n, C.w h1⟩, C.w h2, C.w h3⟩ ⟨zPc_blind, va_recv (zK C.O C.E) hw.1 hc (q0 := i) (by rw [zpl_at hi]; exact congrArg (fun e => some (G.h + i, e)) he), fun U hU hW => ⟨rfl, zEs C hw hU hW, by rw [hU]; exact hw.1⟩⟩ rfl hn hl.1 rfl (lv_room hW) hdg ⟨hc0, hs0⟩
theorem z_runS {y : MethodName} {cy : ByteArray} {nLy n index k : Nat} {rety : Option FieldType} {As : List Value} {lv : List (Nat × Value)} {r : Option Value} (C : zC G l p s m meth c cc nL own ret) (hw : zS G N Λ z s H locs) (hl : lv_has ls nL lv) (hM : zMet G N Λ l y cy nLy rety k As z r z') (iv : zIs own index y cy nLy rety n) (hn : As.length = n) (hR : k + 1 ≤ R.frames ∧ 8 + (nLy + 11) + 30 * k ≤ R.locals) (hW : (rest.map fun v => v.category).sum ≤ 8) (hc0 : cells ≤ R.cells) (hs0 : slots ≤ R.slots) (hdg : decode cc pc = .ok (.invokestatic index, 3))
    : va_Run p l e R s m args below meth c H locs cells slots 0 0 (F0 m pc ls (As.reverse ++ rest)) rest (zQc G N Λ r z' As.toArray) (zA G) := by
  obtain ⟨h1, h3, h4, h5, h6⟩ := iv
  exact va_runS (Ts := []) (n := n) ⟨C.x, C.b, C.ml, C.ow, fun _ h => by cases h⟩ hM ⟨⟨rfl, rfl, hR.1, hR.2, zCode C h5, List.mem_singleton.mpr rfl, C.w h5, C.w h4, h6.1, h6.n, C.w h1⟩, C.w h3⟩ ⟨zPc_blind, fun U hU hW => ⟨rfl, zEs C hw hU hW, by rw [hU]; exact hw.1⟩⟩ rfl hn hl.1 rfl (lv_room hW) hdg ⟨hc0, hs0⟩
theorem z_runN {y : MethodName} {host : String} {cy : ByteArray} {nLy n index k : Nat} {rety : Option FieldType} {As : List Value} {lv : List (Nat × Value)} {r : Option Value} (C : zC G l p s m meth c cc nL own ret) (hw : zS G N Λ z s H locs) (hl : lv_has ls nL lv) (hM : zMet G N Λ l y cy nLy rety k As z r z') (iv : zIn own index y host cy nLy rety n) (hn : As.length = n) (hR : k + 1 ≤ R.frames ∧ 8 + (nLy + 11) + 30 * k ≤ R.locals) (hW : (rest.map fun v => v.category).sum ≤ 8) (hc0 : cells ≤ R.cells) (hs0 : slots ≤ R.slots) (hdg : decode cc pc = .ok (.invokestatic index, 3))
    : va_Run p l e R s m args below meth c H locs cells slots 0 0 (F0 m pc ls (As.reverse ++ rest)) rest (zQc G N Λ r z' As.toArray) (zA G) := by
  obtain ⟨h1, h3, h4, h5, h6⟩ := iv
  exact va_runSN (Ts := []) (n := n) (host := host) ⟨C.x, C.b, C.ml, C.ow, fun _ h => by cases h⟩ hM ⟨⟨⟨rfl, rfl, hR.1, hR.2, zCode C h5, List.mem_singleton.mpr rfl⟩, C.w h5, C.w h4, h6.1, h6.n, va_Nw.use rfl (va_Nw.warmM C.E.1 (va_Nw.of rfl (C.O.1 _ h1)))⟩, C.w h3, trivial⟩ ⟨zPc_blind, fun U hU hW => ⟨rfl, zEs C hw hU hW, by rw [hU]; exact hw.1⟩⟩ rfl hn hl.1 rfl (lv_room hW) hdg ⟨hc0, hs0⟩
/-- calls, an answer or none -/
theorem z_Vv {y : MethodName} {cy : ByteArray} {nLy n index i ci k : Nat} {rety : Option FieldType} {As st : List Value} {fs : List Value} {lv : List (Nat × Value)} {v : Value} (C : zC G l p s m meth c cc nL own ret) (hw : zS G N Λ z s H locs) (hl : lv_has ls nL lv) (hM : zMet G N Λ l y cy nLy rety k (.ref (G.h + i) :: As) z (some v) z') (iv : zIv own index ci y cy nLy rety n) (hi : i < N) (he : Λ i (z.1 i) (z.2 i) = .inr (ci, fs)) (hst : st = As.reverse ++ .ref (G.h + i) :: rest) (hn : As.length = n) (hR : k + 1 ≤ R.frames ∧ 8 + (nLy + 11) + 30 * k ≤ R.locals) (hW : (rest.map fun v => v.category).sum ≤ 8) (hc0 : cells ≤ R.cells ∧ slots ≤ R.slots) (hdg : decode cc pc = .ok (.invokevirtual index, 3))
    (kk : ∀ (H : Heap) (locs : List Loc), zS G N Λ z' s H locs → W p l e R s m args below meth c H locs cells slots Q (F0 m (pc + 3) ls (v :: rest))) : W p l e R s m args below meth c H locs cells slots Q (F0 m pc ls st) := by
  subst hst
  exact z_back C hw (z_runV C hw hl hM iv hi he hn hR hW hc0.1 hc0.2 hdg) kk
theorem z_V0 {y : MethodName} {cy : ByteArray} {nLy n index i ci k : Nat} {rety : Option FieldType} {As st : List Value} {fs : List Value} {lv : List (Nat × Value)} (C : zC G l p s m meth c cc nL own ret) (hw : zS G N Λ z s H locs) (hl : lv_has ls nL lv) (hM : zMet G N Λ l y cy nLy rety k (.ref (G.h + i) :: As) z none z') (iv : zIv own index ci y cy nLy rety n) (hi : i < N) (he : Λ i (z.1 i) (z.2 i) = .inr (ci, fs)) (hst : st = As.reverse ++ .ref (G.h + i) :: rest) (hn : As.length = n) (hR : k + 1 ≤ R.frames ∧ 8 + (nLy + 11) + 30 * k ≤ R.locals) (hW : (rest.map fun v => v.category).sum ≤ 8) (hc0 : cells ≤ R.cells ∧ slots ≤ R.slots) (hdg : decode cc pc = .ok (.invokevirtual index, 3))
    (kk : ∀ (H : Heap) (locs : List Loc), zS G N Λ z' s H locs → W p l e R s m args below meth c H locs cells slots Q (F0 m (pc + 3) ls rest)) : W p l e R s m args below meth c H locs cells slots Q (F0 m pc ls st) := by
  subst hst
  exact z_back C hw (z_runV C hw hl hM iv hi he hn hR hW hc0.1 hc0.2 hdg) kk
theorem z_Sv {y : MethodName} {cy : ByteArray} {nLy n index k : Nat} {rety : Option FieldType} {As st : List Value} {lv : List (Nat × Value)} {v : Value} (C : zC G l p s m meth c cc nL own ret) (hw : zS G N Λ z s H locs) (hl : lv_has ls nL lv) (hM : zMet G N Λ l y cy nLy rety k As z (some v) z') (iv : zIs own index y cy nLy rety n) (hst : st = As.reverse ++ rest) (hn : As.length = n) (hR : k + 1 ≤ R.frames ∧ 8 + (nLy + 11) + 30 * k ≤ R.locals) (hW : (rest.map fun v => v.category).sum ≤ 8) (hc0 : cells ≤ R.cells ∧ slots ≤ R.slots) (hdg : decode cc pc = .ok (.invokestatic index, 3))
    (kk : ∀ (H : Heap) (locs : List Loc), zS G N Λ z' s H locs → W p l e R s m args below meth c H locs cells slots Q (F0 m (pc + 3) ls (v :: rest))) : W p l e R s m args below meth c H locs cells slots Q (F0 m pc ls st) := by
  subst hst
  exact z_back C hw (z_runS C hw hl hM iv hn hR hW hc0.1 hc0.2 hdg) kk
theorem z_S0 {y : MethodName} {cy : ByteArray} {nLy n index k : Nat} {rety : Option FieldType} {As st : List Value} {lv : List (Nat × Value)} (C : zC G l p s m meth c cc nL own ret) (hw : zS G N Λ z s H locs) (hl : lv_has ls nL lv) (hM : zMet G N Λ l y cy nLy rety k As z none z') (iv : zIs own index y cy nLy rety n) (hst : st = As.reverse ++ rest) (hn : As.length = n) (hR : k + 1 ≤ R.frames ∧ 8 + (nLy + 11) + 30 * k ≤ R.locals) (hW : (rest.map fun v => v.category).sum ≤ 8) (hc0 : cells ≤ R.cells ∧ slots ≤ R.slots) (hdg : decode cc pc = .ok (.invokestatic index, 3))
    (kk : ∀ (H : Heap) (locs : List Loc), zS G N Λ z' s H locs → W p l e R s m args below meth c H locs cells slots Q (F0 m (pc + 3) ls rest)) : W p l e R s m args below meth c H locs cells slots Q (F0 m pc ls st) := by
  subst hst
  exact z_back C hw (z_runS C hw hl hM iv hn hR hW hc0.1 hc0.2 hdg) kk
theorem z_Nv {y : MethodName} {host : String} {cy : ByteArray} {nLy n index k : Nat} {rety : Option FieldType} {As st : List Value} {lv : List (Nat × Value)} {v : Value} (C : zC G l p s m meth c cc nL own ret) (hw : zS G N Λ z s H locs) (hl : lv_has ls nL lv) (hM : zMet G N Λ l y cy nLy rety k As z (some v) z') (iv : zIn own index y host cy nLy rety n) (hst : st = As.reverse ++ rest) (hn : As.length = n) (hR : k + 1 ≤ R.frames ∧ 8 + (nLy + 11) + 30 * k ≤ R.locals) (hW : (rest.map fun v => v.category).sum ≤ 8) (hc0 : cells ≤ R.cells ∧ slots ≤ R.slots) (hdg : decode cc pc = .ok (.invokestatic index, 3))
    (kk : ∀ (H : Heap) (locs : List Loc), zS G N Λ z' s H locs → W p l e R s m args below meth c H locs cells slots Q (F0 m (pc + 3) ls (v :: rest))) : W p l e R s m args below meth c H locs cells slots Q (F0 m pc ls st) := by
  subst hst
  exact z_back C hw (z_runN C hw hl hM iv hn hR hW hc0.1 hc0.2 hdg) kk
/-- ends -/
theorem z_end {r : Option Value} (hw : zS G N Λ z s H locs) : ∀ t : State, t.heap = H → s.WarmedH t.vm → zQc G N Λ r z args s (.returned r) t := fun t ht _ => ⟨rfl, by rw [ht]; exact hw.1, hw.2.F ht⟩
theorem z_iret {v : Int32} {r : Option Value} (C : zC G l p s m meth c cc nL own (some .int)) (hw : zS G N Λ z s H locs) (hdg : decode cc pc = .ok (.ireturn, 1)) (hv : r = some (.int v)) (hz : z' = z) :
    W p l e R s m args below meth c H locs cells slots (MQ below (zQc G N Λ r z') args s cells slots (zA G)) (F0 m pc ls [.int v]) := by
  subst hv; subst hz
  exact W.iret C.x C.b C.rt (z_end hw) hw.2.2.2 hdg C.lk
theorem z_zret {v : Int32} {r : Option Value} (C : zC G l p s m meth c cc nL own (some .boolean)) (hw : zS G N Λ z s H locs) (hdg : decode cc pc = .ok (.ireturn, 1)) (hb : v = 0 ∨ v = 1) (hv : r = some (.int v)) (hz : z' = z) :
    W p l e R s m args below meth c H locs cells slots (MQ below (zQc G N Λ r z') args s cells slots (zA G)) (F0 m pc ls [.int v]) := by
  subst hv; subst hz
  exact W.zret C.x C.b C.rt (by rcases hb with rfl | rfl <;> rfl) (z_end hw) hw.2.2.2 hdg C.lk
theorem z_lret {v : Int64} {r : Option Value} (C : zC G l p s m meth c cc nL own (some .long)) (hw : zS G N Λ z s H locs) (hdg : decode cc pc = .ok (.lreturn, 1)) (hv : r = some (.long v)) (hz : z' = z) :
    W p l e R s m args below meth c H locs cells slots (MQ below (zQc G N Λ r z') args s cells slots (zA G)) (F0 m pc ls [.long v]) := by
  subst hv; subst hz
  exact W.lret C.x C.b C.rt (z_end hw) hw.2.2.2 hdg C.lk
theorem z_vret {r : Option Value} (C : zC G l p s m meth c cc nL own none) (hw : zS G N Λ z s H locs) (hdg : decode cc pc = .ok (.return_, 1)) (hv : r = none) (hz : z' = z) :
    W p l e R s m args below meth c H locs cells slots (MQ below (zQc G N Λ r z') args s cells slots (zA G)) (F0 m pc ls []) := by
  subst hv; subst hz
  exact W.vret C.x C.b C.rt (z_end hw) hw.2.2.2 hdg C.lk
end ZROWS
end
section
/-! ===== the words of the tables that the rows use ===== -/
theorem zw_of {w : Cond} (n : Nat) (h : lw_tbl[n]? = some w) (g : goodWord w = true) : zW w := ⟨List.mem_of_getElem? h, g⟩
theorem zlayX0 : ∀ w ∈ u_ws RX0 TX0 9, zW w := fun w hw => ⟨(by decide +kernel : ∀ w ∈ u_ws RX0 TX0 9, w ∈ lw_tbl) w hw, (by decide +kernel : ∀ w ∈ u_ws RX0 TX0 9, goodWord w = true) w hw⟩
theorem zlayX1 : ∀ w ∈ u_ws RX1 TX1 4, zW w := fun w hw => ⟨(by decide +kernel : ∀ w ∈ u_ws RX1 TX1 4, w ∈ lw_tbl) w hw, (by decide +kernel : ∀ w ∈ u_ws RX1 TX1 4, goodWord w = true) w hw⟩
theorem zlayX2 : ∀ w ∈ u_ws RX2 TX2 4, zW w := fun w hw => ⟨(by decide +kernel : ∀ w ∈ u_ws RX2 TX2 4, w ∈ lw_tbl) w hw, (by decide +kernel : ∀ w ∈ u_ws RX2 TX2 4, goodWord w = true) w hw⟩
theorem zlayX3 : ∀ w ∈ u_ws RX3 TX3 4, zW w := fun w hw => ⟨(by decide +kernel : ∀ w ∈ u_ws RX3 TX3 4, w ∈ lw_tbl) w hw, (by decide +kernel : ∀ w ∈ u_ws RX3 TX3 4, goodWord w = true) w hw⟩
theorem zlayX4 : ∀ w ∈ u_ws RX4 TX4 5, zW w := fun w hw => ⟨(by decide +kernel : ∀ w ∈ u_ws RX4 TX4 5, w ∈ lw_tbl) w hw, (by decide +kernel : ∀ w ∈ u_ws RX4 TX4 5, goodWord w = true) w hw⟩
theorem flX0_9 : zFld RX0 9 0 0 := ⟨RX0, TX0, 9, rfl, by decide, (zw_of 86 (by decide +kernel) rfl), rfl, zlayX0⟩
theorem ptX0_34 : zPut RX0 34 0 1 .int := ⟨RX0, TX0, 9, tyX0, rfl, by decide, (zw_of 88 (by decide +kernel) rfl), rfl, rfl, by decide +kernel, zlayX0, tyX0_ok, nmX0⟩
theorem ptX0_37 : zPut RX0 37 0 2 .boolean := ⟨RX0, TX0, 9, tyX0, rfl, by decide, (zw_of 91 (by decide +kernel) rfl), rfl, rfl, by decide +kernel, zlayX0, tyX0_ok, nmX0⟩
theorem ptX0_41 : zPut RX0 41 0 3 .boolean := ⟨RX0, TX0, 9, tyX0, rfl, by decide, (zw_of 94 (by decide +kernel) rfl), rfl, rfl, by decide +kernel, zlayX0, tyX0_ok, nmX0⟩
theorem ivX0_44 : zIn RX0 44 yX3_othersOf "PeerAudit" cX3_othersOf 2 (some .int) 2 := ⟨List.mem_of_getElem? (i := 156) (by decide +kernel), (zw_of 157 (by decide +kernel) rfl), (zw_of 30 (by decide +kernel) rfl), (zw_of 158 (by decide +kernel) rfl), ⟨⟨by decide +kernel, by decide +kernel⟩, by decide +kernel⟩⟩
theorem ptX0_48 : zPut RX0 48 0 4 .int := ⟨RX0, TX0, 9, tyX0, rfl, by decide, (zw_of 97 (by decide +kernel) rfl), rfl, rfl, by decide +kernel, zlayX0, tyX0_ok, nmX0⟩
theorem flX0_15 : zFld RX0 15 0 5 := ⟨RX0, TX0, 9, rfl, by decide, (zw_of 99 (by decide +kernel) rfl), rfl, zlayX0⟩
theorem flX0_24 : zFld RX0 24 0 6 := ⟨RX0, TX0, 9, rfl, by decide, (zw_of 102 (by decide +kernel) rfl), rfl, zlayX0⟩
theorem ivX0_51 : zIv RX0 51 1 yX1_keepFirst cX1_keepFirst 2 none 1 := ⟨_, rfl, (zw_of 159 (by decide +kernel) rfl), (zw_of 160 (by decide +kernel) rfl), (zw_of 161 (by decide +kernel) rfl), (zw_of 33 (by decide +kernel) rfl), (zw_of 162 (by decide +kernel) rfl), ⟨⟨by decide +kernel, by decide +kernel⟩, by decide +kernel⟩⟩
theorem flX0_28 : zFld RX0 28 0 7 := ⟨RX0, TX0, 9, rfl, by decide, (zw_of 105 (by decide +kernel) rfl), rfl, zlayX0⟩
theorem flX0_31 : zFld RX0 31 0 8 := ⟨RX0, TX0, 9, rfl, by decide, (zw_of 107 (by decide +kernel) rfl), rfl, zlayX0⟩
theorem flX0_34 : zFld RX0 34 0 1 := ⟨RX0, TX0, 9, rfl, by decide, (zw_of 88 (by decide +kernel) rfl), rfl, zlayX0⟩
theorem flX0_37 : zFld RX0 37 0 2 := ⟨RX0, TX0, 9, rfl, by decide, (zw_of 91 (by decide +kernel) rfl), rfl, zlayX0⟩
theorem flX0_41 : zFld RX0 41 0 3 := ⟨RX0, TX0, 9, rfl, by decide, (zw_of 94 (by decide +kernel) rfl), rfl, zlayX0⟩
theorem flX0_48 : zFld RX0 48 0 4 := ⟨RX0, TX0, 9, rfl, by decide, (zw_of 97 (by decide +kernel) rfl), rfl, zlayX0⟩
theorem cpX0_55 : zCpy RX0 55 := ⟨(zw_of 198 (by decide +kernel) rfl), (zw_of 200 (by decide +kernel) rfl), (zw_of 199 (by decide +kernel) rfl), (zw_of 39 (by decide +kernel) rfl)⟩
theorem ivX0_61 : zIv RX0 61 1 yX1_copyRows cX1_copyRows 2 none 1 := ⟨_, rfl, (zw_of 201 (by decide +kernel) rfl), (zw_of 202 (by decide +kernel) rfl), (zw_of 203 (by decide +kernel) rfl), (zw_of 33 (by decide +kernel) rfl), (zw_of 204 (by decide +kernel) rfl), ⟨⟨by decide +kernel, by decide +kernel⟩, by decide +kernel⟩⟩
theorem flX0_65 : zFld RX0 65 1 3 := ⟨RX1, TX1, 4, rfl, by decide, (zw_of 74 (by decide +kernel) rfl), rfl, zlayX1⟩
theorem ivX0_68 : zIv RX0 68 1 yX1_get cX1_get 3 (some .int) 2 := ⟨_, rfl, (zw_of 227 (by decide +kernel) rfl), (zw_of 228 (by decide +kernel) rfl), (zw_of 229 (by decide +kernel) rfl), (zw_of 33 (by decide +kernel) rfl), (zw_of 230 (by decide +kernel) rfl), ⟨⟨by decide +kernel, by decide +kernel⟩, by decide +kernel⟩⟩
theorem ivX0_72 : zIv RX0 72 1 yX1_addRow cX1_addRow 1 (some .int) 0 := ⟨_, rfl, (zw_of 437 (by decide +kernel) rfl), (zw_of 240 (by decide +kernel) rfl), (zw_of 241 (by decide +kernel) rfl), (zw_of 33 (by decide +kernel) rfl), (zw_of 242 (by decide +kernel) rfl), ⟨⟨by decide +kernel, by decide +kernel⟩, by decide +kernel⟩⟩
theorem ivX0_76 : zIv RX0 76 1 yX1_set cX1_set 4 none 3 := ⟨_, rfl, (zw_of 438 (by decide +kernel) rfl), (zw_of 244 (by decide +kernel) rfl), (zw_of 245 (by decide +kernel) rfl), (zw_of 33 (by decide +kernel) rfl), (zw_of 246 (by decide +kernel) rfl), ⟨⟨by decide +kernel, by decide +kernel⟩, by decide +kernel⟩⟩
theorem ivX0_80 : zIv RX0 80 0 yX0_chainAt cX0_chainAt 2 (some .int) 1 := ⟨_, rfl, (zw_of 231 (by decide +kernel) rfl), (zw_of 232 (by decide +kernel) rfl), (zw_of 233 (by decide +kernel) rfl), (zw_of 32 (by decide +kernel) rfl), (zw_of 234 (by decide +kernel) rfl), ⟨⟨by decide +kernel, by decide +kernel⟩, by decide +kernel⟩⟩
theorem ivX0_84 : zIn RX0 84 yX3_nextChain "PeerAudit" cX3_nextChain 4 (some .int) 4 := ⟨List.mem_of_getElem? (i := 439) (by decide +kernel), (zw_of 440 (by decide +kernel) rfl), (zw_of 30 (by decide +kernel) rfl), (zw_of 441 (by decide +kernel) rfl), ⟨⟨by decide +kernel, by decide +kernel⟩, by decide +kernel⟩⟩
theorem ivX0_88 : zIv RX0 88 1 yX1_removeFirst cX1_removeFirst 1 none 0 := ⟨_, rfl, (zw_of 492 (by decide +kernel) rfl), (zw_of 485 (by decide +kernel) rfl), (zw_of 486 (by decide +kernel) rfl), (zw_of 33 (by decide +kernel) rfl), (zw_of 487 (by decide +kernel) rfl), ⟨⟨by decide +kernel, by decide +kernel⟩, by decide +kernel⟩⟩
theorem ivX0_91 : zIn RX0 91 yX3_nextState "PeerAudit" cX3_nextState 3 (some .int) 3 := ⟨List.mem_of_getElem? (i := 251) (by decide +kernel), (zw_of 252 (by decide +kernel) rfl), (zw_of 30 (by decide +kernel) rfl), (zw_of 253 (by decide +kernel) rfl), ⟨⟨by decide +kernel, by decide +kernel⟩, by decide +kernel⟩⟩
theorem ivX0_95 : zIn RX0 95 yX3_hasOutput "PeerAudit" cX3_hasOutput 1 (some .boolean) 1 := ⟨List.mem_of_getElem? (i := 254) (by decide +kernel), (zw_of 255 (by decide +kernel) rfl), (zw_of 30 (by decide +kernel) rfl), (zw_of 256 (by decide +kernel) rfl), ⟨⟨by decide +kernel, by decide +kernel⟩, by decide +kernel⟩⟩
theorem ivX0_99 : zIn RX0 99 yX3_outputPeer "PeerAudit" cX3_outputPeer 5 (some .int) 3 := ⟨List.mem_of_getElem? (i := 257) (by decide +kernel), (zw_of 258 (by decide +kernel) rfl), (zw_of 30 (by decide +kernel) rfl), (zw_of 259 (by decide +kernel) rfl), ⟨⟨by decide +kernel, by decide +kernel⟩, by decide +kernel⟩⟩
theorem ivX0_102 : zIn RX0 102 yX3_outputValue "PeerAudit" cX3_outputValue 1 (some .int) 1 := ⟨List.mem_of_getElem? (i := 260) (by decide +kernel), (zw_of 261 (by decide +kernel) rfl), (zw_of 30 (by decide +kernel) rfl), (zw_of 262 (by decide +kernel) rfl), ⟨⟨by decide +kernel, by decide +kernel⟩, by decide +kernel⟩⟩
theorem ivX0_105 : zIv RX0 105 0 yX0_isSend cX0_isSend 4 (some .boolean) 3 := ⟨_, rfl, (zw_of 263 (by decide +kernel) rfl), (zw_of 264 (by decide +kernel) rfl), (zw_of 265 (by decide +kernel) rfl), (zw_of 32 (by decide +kernel) rfl), (zw_of 266 (by decide +kernel) rfl), ⟨⟨by decide +kernel, by decide +kernel⟩, by decide +kernel⟩⟩
theorem flX1_22 : zFld RX1 22 1 3 := ⟨RX1, TX1, 4, rfl, by decide, (zw_of 72 (by decide +kernel) rfl), rfl, zlayX1⟩
theorem flX1_9 : zFld RX1 9 1 0 := ⟨RX1, TX1, 4, rfl, by decide, (zw_of 69 (by decide +kernel) rfl), rfl, zlayX1⟩
theorem flX1_18 : zFld RX1 18 1 2 := ⟨RX1, TX1, 4, rfl, by decide, (zw_of 71 (by decide +kernel) rfl), rfl, zlayX1⟩
theorem flX1_15 : zFld RX1 15 1 1 := ⟨RX1, TX1, 4, rfl, by decide, (zw_of 70 (by decide +kernel) rfl), rfl, zlayX1⟩
theorem ptX1_22 : zPut RX1 22 1 3 .int := ⟨RX1, TX1, 4, tyX1, rfl, by decide, (zw_of 72 (by decide +kernel) rfl), rfl, rfl, by decide +kernel, zlayX1, tyX1_ok, nmX1⟩
theorem ivX1_25 : zIv RX1 25 1 yX1_addRow cX1_addRow 1 (some .int) 0 := ⟨_, rfl, (zw_of 481 (by decide +kernel) rfl), (zw_of 240 (by decide +kernel) rfl), (zw_of 241 (by decide +kernel) rfl), (zw_of 33 (by decide +kernel) rfl), (zw_of 242 (by decide +kernel) rfl), ⟨⟨by decide +kernel, by decide +kernel⟩, by decide +kernel⟩⟩
theorem ivX1_29 : zIv RX1 29 1 yX1_get cX1_get 3 (some .int) 2 := ⟨_, rfl, (zw_of 482 (by decide +kernel) rfl), (zw_of 228 (by decide +kernel) rfl), (zw_of 229 (by decide +kernel) rfl), (zw_of 33 (by decide +kernel) rfl), (zw_of 230 (by decide +kernel) rfl), ⟨⟨by decide +kernel, by decide +kernel⟩, by decide +kernel⟩⟩
theorem ivX1_33 : zIv RX1 33 1 yX1_set cX1_set 4 none 3 := ⟨_, rfl, (zw_of 483 (by decide +kernel) rfl), (zw_of 244 (by decide +kernel) rfl), (zw_of 245 (by decide +kernel) rfl), (zw_of 33 (by decide +kernel) rfl), (zw_of 246 (by decide +kernel) rfl), ⟨⟨by decide +kernel, by decide +kernel⟩, by decide +kernel⟩⟩
theorem cpX1_37 : zCpy RX1 37 := ⟨(zw_of 205 (by decide +kernel) rfl), (zw_of 200 (by decide +kernel) rfl), (zw_of 199 (by decide +kernel) rfl), (zw_of 39 (by decide +kernel) rfl)⟩
theorem flX2_11 : zFld RX2 11 2 1 := ⟨RX2, TX2, 4, rfl, by decide, (zw_of 133 (by decide +kernel) rfl), rfl, zlayX2⟩
theorem ptX2_32 : zPut RX2 32 2 0 .int := ⟨RX2, TX2, 4, tyX2, rfl, by decide, (zw_of 131 (by decide +kernel) rfl), rfl, rfl, by decide +kernel, zlayX2, tyX2_ok, nmX2⟩
theorem flX2_32 : zFld RX2 32 2 0 := ⟨RX2, TX2, 4, rfl, by decide, (zw_of 131 (by decide +kernel) rfl), rfl, zlayX2⟩
theorem ivX2_36 : zIv RX2 36 0 yX0_start cX0_start 3 none 1 := ⟨_, rfl, (zw_of 152 (by decide +kernel) rfl), (zw_of 153 (by decide +kernel) rfl), (zw_of 154 (by decide +kernel) rfl), (zw_of 32 (by decide +kernel) rfl), (zw_of 155 (by decide +kernel) rfl), ⟨⟨by decide +kernel, by decide +kernel⟩, by decide +kernel⟩⟩
theorem flX2_25 : zFld RX2 25 2 2 := ⟨RX2, TX2, 4, rfl, by decide, (zw_of 135 (by decide +kernel) rfl), rfl, zlayX2⟩
theorem ivX2_39 : zIv RX2 39 1 yX1_keepFirst cX1_keepFirst 2 none 1 := ⟨_, rfl, (zw_of 163 (by decide +kernel) rfl), (zw_of 160 (by decide +kernel) rfl), (zw_of 161 (by decide +kernel) rfl), (zw_of 33 (by decide +kernel) rfl), (zw_of 162 (by decide +kernel) rfl), ⟨⟨by decide +kernel, by decide +kernel⟩, by decide +kernel⟩⟩
theorem flX2_29 : zFld RX2 29 2 3 := ⟨RX2, TX2, 4, rfl, by decide, (zw_of 137 (by decide +kernel) rfl), rfl, zlayX2⟩
theorem ivX2_42 : zIv RX2 42 0 yX0_copyMachine cX0_copyMachine 2 none 1 := ⟨_, rfl, (zw_of 194 (by decide +kernel) rfl), (zw_of 195 (by decide +kernel) rfl), (zw_of 196 (by decide +kernel) rfl), (zw_of 32 (by decide +kernel) rfl), (zw_of 197 (by decide +kernel) rfl), ⟨⟨by decide +kernel, by decide +kernel⟩, by decide +kernel⟩⟩
theorem ivX2_46 : zIv RX2 46 1 yX1_copyRows cX1_copyRows 2 none 1 := ⟨_, rfl, (zw_of 206 (by decide +kernel) rfl), (zw_of 202 (by decide +kernel) rfl), (zw_of 203 (by decide +kernel) rfl), (zw_of 33 (by decide +kernel) rfl), (zw_of 204 (by decide +kernel) rfl), ⟨⟨by decide +kernel, by decide +kernel⟩, by decide +kernel⟩⟩
theorem ivX2_50 : zIv RX2 50 0 yX0_append cX0_append 5 none 3 := ⟨_, rfl, (zw_of 433 (by decide +kernel) rfl), (zw_of 434 (by decide +kernel) rfl), (zw_of 435 (by decide +kernel) rfl), (zw_of 32 (by decide +kernel) rfl), (zw_of 436 (by decide +kernel) rfl), ⟨⟨by decide +kernel, by decide +kernel⟩, by decide +kernel⟩⟩
theorem flX2_54 : zFld RX2 54 0 1 := ⟨RX0, TX0, 9, rfl, by decide, (zw_of 90 (by decide +kernel) rfl), rfl, zlayX0⟩
theorem ivX2_57 : zIn RX2 57 yX3_nextState "PeerAudit" cX3_nextState 3 (some .int) 3 := ⟨List.mem_of_getElem? (i := 444) (by decide +kernel), (zw_of 252 (by decide +kernel) rfl), (zw_of 30 (by decide +kernel) rfl), (zw_of 253 (by decide +kernel) rfl), ⟨⟨by decide +kernel, by decide +kernel⟩, by decide +kernel⟩⟩
theorem ptX2_54 : zPut RX2 54 0 1 .int := ⟨RX0, TX0, 9, tyX0, rfl, by decide, (zw_of 90 (by decide +kernel) rfl), rfl, rfl, by decide +kernel, zlayX0, tyX0_ok, nmX0⟩
theorem ivX2_61 : zIn RX2 61 yX3_hasOutput "PeerAudit" cX3_hasOutput 1 (some .boolean) 1 := ⟨List.mem_of_getElem? (i := 445) (by decide +kernel), (zw_of 255 (by decide +kernel) rfl), (zw_of 30 (by decide +kernel) rfl), (zw_of 256 (by decide +kernel) rfl), ⟨⟨by decide +kernel, by decide +kernel⟩, by decide +kernel⟩⟩
theorem ivX2_65 : zIv RX2 65 2 yX2_send cX2_send 6 none 1 := ⟨_, rfl, (zw_of 446 (by decide +kernel) rfl), (zw_of 447 (by decide +kernel) rfl), (zw_of 448 (by decide +kernel) rfl), (zw_of 31 (by decide +kernel) rfl), (zw_of 449 (by decide +kernel) rfl), ⟨⟨by decide +kernel, by decide +kernel⟩, by decide +kernel⟩⟩
theorem flX2_68 : zFld RX2 68 0 0 := ⟨RX0, TX0, 9, rfl, by decide, (zw_of 87 (by decide +kernel) rfl), rfl, zlayX0⟩
theorem ivX2_71 : zIn RX2 71 yX3_outputPeer "PeerAudit" cX3_outputPeer 5 (some .int) 3 := ⟨List.mem_of_getElem? (i := 450) (by decide +kernel), (zw_of 258 (by decide +kernel) rfl), (zw_of 30 (by decide +kernel) rfl), (zw_of 259 (by decide +kernel) rfl), ⟨⟨by decide +kernel, by decide +kernel⟩, by decide +kernel⟩⟩
theorem ivX2_74 : zIn RX2 74 yX3_outputValue "PeerAudit" cX3_outputValue 1 (some .int) 1 := ⟨List.mem_of_getElem? (i := 451) (by decide +kernel), (zw_of 261 (by decide +kernel) rfl), (zw_of 30 (by decide +kernel) rfl), (zw_of 262 (by decide +kernel) rfl), ⟨⟨by decide +kernel, by decide +kernel⟩, by decide +kernel⟩⟩
theorem flX2_78 : zFld RX2 78 0 3 := ⟨RX0, TX0, 9, rfl, by decide, (zw_of 95 (by decide +kernel) rfl), rfl, zlayX0⟩
theorem ptX2_78 : zPut RX2 78 0 3 .boolean := ⟨RX0, TX0, 9, tyX0, rfl, by decide, (zw_of 95 (by decide +kernel) rfl), rfl, rfl, by decide +kernel, zlayX0, tyX0_ok, nmX0⟩
theorem flX2_82 : zFld RX2 82 0 6 := ⟨RX0, TX0, 9, rfl, by decide, (zw_of 103 (by decide +kernel) rfl), rfl, zlayX0⟩
theorem flX2_85 : zFld RX2 85 1 3 := ⟨RX1, TX1, 4, rfl, by decide, (zw_of 75 (by decide +kernel) rfl), rfl, zlayX1⟩
theorem ivX2_88 : zIv RX2 88 1 yX1_addRow cX1_addRow 1 (some .int) 0 := ⟨_, rfl, (zw_of 239 (by decide +kernel) rfl), (zw_of 240 (by decide +kernel) rfl), (zw_of 241 (by decide +kernel) rfl), (zw_of 33 (by decide +kernel) rfl), (zw_of 242 (by decide +kernel) rfl), ⟨⟨by decide +kernel, by decide +kernel⟩, by decide +kernel⟩⟩
theorem ivX2_92 : zIv RX2 92 1 yX1_set cX1_set 4 none 3 := ⟨_, rfl, (zw_of 243 (by decide +kernel) rfl), (zw_of 244 (by decide +kernel) rfl), (zw_of 245 (by decide +kernel) rfl), (zw_of 33 (by decide +kernel) rfl), (zw_of 246 (by decide +kernel) rfl), ⟨⟨by decide +kernel, by decide +kernel⟩, by decide +kernel⟩⟩
theorem ivX2_95 : zIv RX2 95 0 yX0_chainAt cX0_chainAt 2 (some .int) 1 := ⟨_, rfl, (zw_of 452 (by decide +kernel) rfl), (zw_of 232 (by decide +kernel) rfl), (zw_of 233 (by decide +kernel) rfl), (zw_of 32 (by decide +kernel) rfl), (zw_of 234 (by decide +kernel) rfl), ⟨⟨by decide +kernel, by decide +kernel⟩, by decide +kernel⟩⟩
theorem ivX2_98 : zIv RX2 98 1 yX1_get cX1_get 3 (some .int) 2 := ⟨_, rfl, (zw_of 464 (by decide +kernel) rfl), (zw_of 228 (by decide +kernel) rfl), (zw_of 229 (by decide +kernel) rfl), (zw_of 33 (by decide +kernel) rfl), (zw_of 230 (by decide +kernel) rfl), ⟨⟨by decide +kernel, by decide +kernel⟩, by decide +kernel⟩⟩
theorem ivX2_102 : zIv RX2 102 2 yX2_firstReceiver cX2_firstReceiver 1 (some .int) 0 := ⟨_, rfl, (zw_of 469 (by decide +kernel) rfl), (zw_of 461 (by decide +kernel) rfl), (zw_of 462 (by decide +kernel) rfl), (zw_of 31 (by decide +kernel) rfl), (zw_of 463 (by decide +kernel) rfl), ⟨⟨by decide +kernel, by decide +kernel⟩, by decide +kernel⟩⟩
theorem ivX2_105 : zIv RX2 105 2 yX2_isMachine cX2_isMachine 2 (some .boolean) 1 := ⟨_, rfl, (zw_of 470 (by decide +kernel) rfl), (zw_of 386 (by decide +kernel) rfl), (zw_of 387 (by decide +kernel) rfl), (zw_of 31 (by decide +kernel) rfl), (zw_of 388 (by decide +kernel) rfl), ⟨⟨by decide +kernel, by decide +kernel⟩, by decide +kernel⟩⟩
theorem flX2_108 : zFld RX2 108 0 2 := ⟨RX0, TX0, 9, rfl, by decide, (zw_of 93 (by decide +kernel) rfl), rfl, zlayX0⟩
theorem ivX2_111 : zIv RX2 111 0 yX0_hasRoom cX0_hasRoom 2 (some .boolean) 1 := ⟨_, rfl, (zw_of 471 (by decide +kernel) rfl), (zw_of 410 (by decide +kernel) rfl), (zw_of 411 (by decide +kernel) rfl), (zw_of 32 (by decide +kernel) rfl), (zw_of 412 (by decide +kernel) rfl), ⟨⟨by decide +kernel, by decide +kernel⟩, by decide +kernel⟩⟩
theorem flX2_114 : zFld RX2 114 0 8 := ⟨RX0, TX0, 9, rfl, by decide, (zw_of 109 (by decide +kernel) rfl), rfl, zlayX0⟩
theorem ivX2_117 : zIv RX2 117 1 yX1_addCopy cX1_addCopy 5 none 2 := ⟨_, rfl, (zw_of 477 (by decide +kernel) rfl), (zw_of 478 (by decide +kernel) rfl), (zw_of 479 (by decide +kernel) rfl), (zw_of 33 (by decide +kernel) rfl), (zw_of 480 (by decide +kernel) rfl), ⟨⟨by decide +kernel, by decide +kernel⟩, by decide +kernel⟩⟩
theorem ivX2_121 : zIv RX2 121 1 yX1_removeFirst cX1_removeFirst 1 none 0 := ⟨_, rfl, (zw_of 484 (by decide +kernel) rfl), (zw_of 485 (by decide +kernel) rfl), (zw_of 486 (by decide +kernel) rfl), (zw_of 33 (by decide +kernel) rfl), (zw_of 487 (by decide +kernel) rfl), ⟨⟨by decide +kernel, by decide +kernel⟩, by decide +kernel⟩⟩
theorem ivX2_124 : zIv RX2 124 0 yX0_hold cX0_hold 5 none 3 := ⟨_, rfl, (zw_of 488 (by decide +kernel) rfl), (zw_of 489 (by decide +kernel) rfl), (zw_of 490 (by decide +kernel) rfl), (zw_of 32 (by decide +kernel) rfl), (zw_of 491 (by decide +kernel) rfl), ⟨⟨by decide +kernel, by decide +kernel⟩, by decide +kernel⟩⟩
theorem ivX2_127 : zIv RX2 127 2 yX2_take cX2_take 5 none 4 := ⟨_, rfl, (zw_of 493 (by decide +kernel) rfl), (zw_of 430 (by decide +kernel) rfl), (zw_of 431 (by decide +kernel) rfl), (zw_of 31 (by decide +kernel) rfl), (zw_of 432 (by decide +kernel) rfl), ⟨⟨by decide +kernel, by decide +kernel⟩, by decide +kernel⟩⟩
theorem ivX2_131 : zIv RX2 131 0 yX0_hasWitness cX0_hasWitness 2 (some .boolean) 1 := ⟨_, rfl, (zw_of 211 (by decide +kernel) rfl), (zw_of 212 (by decide +kernel) rfl), (zw_of 213 (by decide +kernel) rfl), (zw_of 32 (by decide +kernel) rfl), (zw_of 214 (by decide +kernel) rfl), ⟨⟨by decide +kernel, by decide +kernel⟩, by decide +kernel⟩⟩
theorem flX2_134 : zFld RX2 134 0 5 := ⟨RX0, TX0, 9, rfl, by decide, (zw_of 100 (by decide +kernel) rfl), rfl, zlayX0⟩
theorem ivX2_138 : zIv RX2 138 2 yX2_judge cX2_judge 4 (some .int) 2 := ⟨_, rfl, (zw_of 215 (by decide +kernel) rfl), (zw_of 216 (by decide +kernel) rfl), (zw_of 217 (by decide +kernel) rfl), (zw_of 31 (by decide +kernel) rfl), (zw_of 218 (by decide +kernel) rfl), ⟨⟨by decide +kernel, by decide +kernel⟩, by decide +kernel⟩⟩
theorem ivX2_142 : zIv RX2 142 2 yX2_beliedEntry cX2_beliedEntry 4 (some .int) 1 := ⟨_, rfl, (zw_of 219 (by decide +kernel) rfl), (zw_of 220 (by decide +kernel) rfl), (zw_of 221 (by decide +kernel) rfl), (zw_of 31 (by decide +kernel) rfl), (zw_of 222 (by decide +kernel) rfl), ⟨⟨by decide +kernel, by decide +kernel⟩, by decide +kernel⟩⟩
theorem ivX2_146 : zIv RX2 146 2 yX2_addEvidence cX2_addEvidence 6 none 4 := ⟨_, rfl, (zw_of 235 (by decide +kernel) rfl), (zw_of 236 (by decide +kernel) rfl), (zw_of 237 (by decide +kernel) rfl), (zw_of 31 (by decide +kernel) rfl), (zw_of 238 (by decide +kernel) rfl), ⟨⟨by decide +kernel, by decide +kernel⟩, by decide +kernel⟩⟩
theorem ivX2_150 : zIv RX2 150 0 yX0_replayFault cX0_replayFault 4 (some .int) 1 := ⟨_, rfl, (zw_of 247 (by decide +kernel) rfl), (zw_of 248 (by decide +kernel) rfl), (zw_of 249 (by decide +kernel) rfl), (zw_of 32 (by decide +kernel) rfl), (zw_of 250 (by decide +kernel) rfl), ⟨⟨by decide +kernel, by decide +kernel⟩, by decide +kernel⟩⟩
theorem ivX2_153 : zIv RX2 153 0 yX0_beliedEntryOf cX0_beliedEntryOf 4 (some .int) 1 := ⟨_, rfl, (zw_of 223 (by decide +kernel) rfl), (zw_of 224 (by decide +kernel) rfl), (zw_of 225 (by decide +kernel) rfl), (zw_of 32 (by decide +kernel) rfl), (zw_of 226 (by decide +kernel) rfl), ⟨⟨by decide +kernel, by decide +kernel⟩, by decide +kernel⟩⟩
theorem flX3_12 : zFld RX3 12 3 0 := ⟨RX3, TX3, 4, rfl, by decide, (zw_of 165 (by decide +kernel) rfl), rfl, zlayX3⟩
theorem ivX3_16 : zIv RX3 16 2 yX2_begin cX2_begin 3 none 1 := ⟨_, rfl, (zw_of 148 (by decide +kernel) rfl), (zw_of 149 (by decide +kernel) rfl), (zw_of 150 (by decide +kernel) rfl), (zw_of 31 (by decide +kernel) rfl), (zw_of 151 (by decide +kernel) rfl), ⟨⟨by decide +kernel, by decide +kernel⟩, by decide +kernel⟩⟩
theorem flX3_20 : zFld RX3 20 3 1 := ⟨RX3, TX3, 4, rfl, by decide, (zw_of 166 (by decide +kernel) rfl), rfl, zlayX3⟩
theorem ivX3_31 : zIv RX3 31 3 yX3_save cX3_save 1 none 0 := ⟨_, rfl, (zw_of 186 (by decide +kernel) rfl), (zw_of 188 (by decide +kernel) rfl), (zw_of 0 (by decide +kernel) rfl), (zw_of 30 (by decide +kernel) rfl), (zw_of 189 (by decide +kernel) rfl), ⟨⟨by decide +kernel, by decide +kernel⟩, by decide +kernel⟩⟩
theorem flX3_34 : zFld RX3 34 2 0 := ⟨RX2, TX2, 4, rfl, by decide, (zw_of 132 (by decide +kernel) rfl), rfl, zlayX2⟩
theorem ivX3_38 : zIv RX3 38 3 yX3_requireMachine cX3_requireMachine 2 none 1 := ⟨_, rfl, (zw_of 381 (by decide +kernel) rfl), (zw_of 383 (by decide +kernel) rfl), (zw_of 2 (by decide +kernel) rfl), (zw_of 30 (by decide +kernel) rfl), (zw_of 384 (by decide +kernel) rfl), ⟨⟨by decide +kernel, by decide +kernel⟩, by decide +kernel⟩⟩
theorem ivX3_41 : zIs RX3 41 yX3_requireValue cX3_requireValue 1 none 1 := ⟨(zw_of 405 (by decide +kernel) rfl), (zw_of 406 (by decide +kernel) rfl), (zw_of 30 (by decide +kernel) rfl), (zw_of 407 (by decide +kernel) rfl), ⟨⟨by decide +kernel, by decide +kernel⟩, by decide +kernel⟩⟩
theorem flX3_44 : zFld RX3 44 2 1 := ⟨RX2, TX2, 4, rfl, by decide, (zw_of 134 (by decide +kernel) rfl), rfl, zlayX2⟩
theorem flX3_48 : zFld RX3 48 2 2 := ⟨RX2, TX2, 4, rfl, by decide, (zw_of 136 (by decide +kernel) rfl), rfl, zlayX2⟩
theorem flX3_52 : zFld RX3 52 1 3 := ⟨RX1, TX1, 4, rfl, by decide, (zw_of 73 (by decide +kernel) rfl), rfl, zlayX1⟩
theorem ivX3_57 : zIv RX3 57 0 yX0_hasRoom cX0_hasRoom 2 (some .boolean) 1 := ⟨_, rfl, (zw_of 409 (by decide +kernel) rfl), (zw_of 410 (by decide +kernel) rfl), (zw_of 411 (by decide +kernel) rfl), (zw_of 32 (by decide +kernel) rfl), (zw_of 412 (by decide +kernel) rfl), ⟨⟨by decide +kernel, by decide +kernel⟩, by decide +kernel⟩⟩
theorem ivX3_68 : zIv RX3 68 2 yX2_take cX2_take 5 none 4 := ⟨_, rfl, (zw_of 429 (by decide +kernel) rfl), (zw_of 430 (by decide +kernel) rfl), (zw_of 431 (by decide +kernel) rfl), (zw_of 31 (by decide +kernel) rfl), (zw_of 432 (by decide +kernel) rfl), ⟨⟨by decide +kernel, by decide +kernel⟩, by decide +kernel⟩⟩
theorem flX3_72 : zFld RX3 72 0 1 := ⟨RX0, TX0, 9, rfl, by decide, (zw_of 89 (by decide +kernel) rfl), rfl, zlayX0⟩
theorem ivX3_75 : zIv RX3 75 2 yX2_firstReceiver cX2_firstReceiver 1 (some .int) 0 := ⟨_, rfl, (zw_of 460 (by decide +kernel) rfl), (zw_of 461 (by decide +kernel) rfl), (zw_of 462 (by decide +kernel) rfl), (zw_of 31 (by decide +kernel) rfl), (zw_of 463 (by decide +kernel) rfl), ⟨⟨by decide +kernel, by decide +kernel⟩, by decide +kernel⟩⟩
theorem ivX3_79 : zIv RX3 79 2 yX2_canDeliver cX2_canDeliver 2 (some .boolean) 0 := ⟨_, rfl, (zw_of 465 (by decide +kernel) rfl), (zw_of 466 (by decide +kernel) rfl), (zw_of 467 (by decide +kernel) rfl), (zw_of 31 (by decide +kernel) rfl), (zw_of 468 (by decide +kernel) rfl), ⟨⟨by decide +kernel, by decide +kernel⟩, by decide +kernel⟩⟩
theorem ivX3_85 : zIv RX3 85 2 yX2_deliverFirst cX2_deliverFirst 5 none 0 := ⟨_, rfl, (zw_of 473 (by decide +kernel) rfl), (zw_of 474 (by decide +kernel) rfl), (zw_of 475 (by decide +kernel) rfl), (zw_of 31 (by decide +kernel) rfl), (zw_of 476 (by decide +kernel) rfl), ⟨⟨by decide +kernel, by decide +kernel⟩, by decide +kernel⟩⟩
theorem ptX3_90 : zPut RX3 90 0 2 .boolean := ⟨RX0, TX0, 9, tyX0, rfl, by decide, (zw_of 92 (by decide +kernel) rfl), rfl, rfl, by decide +kernel, zlayX0, tyX0_ok, nmX0⟩
theorem flX3_94 : zFld RX3 94 0 8 := ⟨RX0, TX0, 9, rfl, by decide, (zw_of 108 (by decide +kernel) rfl), rfl, zlayX0⟩
theorem ivX3_99 : zIv RX3 99 1 yX1_addCopy cX1_addCopy 5 none 2 := ⟨_, rfl, (zw_of 531 (by decide +kernel) rfl), (zw_of 478 (by decide +kernel) rfl), (zw_of 479 (by decide +kernel) rfl), (zw_of 33 (by decide +kernel) rfl), (zw_of 480 (by decide +kernel) rfl), ⟨⟨by decide +kernel, by decide +kernel⟩, by decide +kernel⟩⟩
theorem ivX3_103 : zIv RX3 103 1 yX1_keepFirst cX1_keepFirst 2 none 1 := ⟨_, rfl, (zw_of 532 (by decide +kernel) rfl), (zw_of 160 (by decide +kernel) rfl), (zw_of 161 (by decide +kernel) rfl), (zw_of 33 (by decide +kernel) rfl), (zw_of 162 (by decide +kernel) rfl), ⟨⟨by decide +kernel, by decide +kernel⟩, by decide +kernel⟩⟩
theorem flX3_106 : zFld RX3 106 0 3 := ⟨RX0, TX0, 9, rfl, by decide, (zw_of 96 (by decide +kernel) rfl), rfl, zlayX0⟩
theorem ptX3_106 : zPut RX3 106 0 3 .boolean := ⟨RX0, TX0, 9, tyX0, rfl, by decide, (zw_of 96 (by decide +kernel) rfl), rfl, rfl, by decide +kernel, zlayX0, tyX0_ok, nmX0⟩
theorem ivX3_109 : zIv RX3 109 3 yX3_requireEntry cX3_requireEntry 3 none 2 := ⟨_, rfl, (zw_of 547 (by decide +kernel) rfl), (zw_of 549 (by decide +kernel) rfl), (zw_of 3 (by decide +kernel) rfl), (zw_of 30 (by decide +kernel) rfl), (zw_of 550 (by decide +kernel) rfl), ⟨⟨by decide +kernel, by decide +kernel⟩, by decide +kernel⟩⟩
theorem flX3_113 : zFld RX3 113 0 6 := ⟨RX0, TX0, 9, rfl, by decide, (zw_of 104 (by decide +kernel) rfl), rfl, zlayX0⟩
theorem ivX3_116 : zIv RX3 116 1 yX1_get cX1_get 3 (some .int) 2 := ⟨_, rfl, (zw_of 292 (by decide +kernel) rfl), (zw_of 228 (by decide +kernel) rfl), (zw_of 229 (by decide +kernel) rfl), (zw_of 33 (by decide +kernel) rfl), (zw_of 230 (by decide +kernel) rfl), ⟨⟨by decide +kernel, by decide +kernel⟩, by decide +kernel⟩⟩
theorem ivX3_120 : zIv RX3 120 1 yX1_set cX1_set 4 none 3 := ⟨_, rfl, (zw_of 552 (by decide +kernel) rfl), (zw_of 244 (by decide +kernel) rfl), (zw_of 245 (by decide +kernel) rfl), (zw_of 33 (by decide +kernel) rfl), (zw_of 246 (by decide +kernel) rfl), ⟨⟨by decide +kernel, by decide +kernel⟩, by decide +kernel⟩⟩
theorem ivX3_124 : zIv RX3 124 0 yX0_rechain cX0_rechain 4 none 1 := ⟨_, rfl, (zw_of 553 (by decide +kernel) rfl), (zw_of 554 (by decide +kernel) rfl), (zw_of 555 (by decide +kernel) rfl), (zw_of 32 (by decide +kernel) rfl), (zw_of 556 (by decide +kernel) rfl), ⟨⟨by decide +kernel, by decide +kernel⟩, by decide +kernel⟩⟩
theorem ivX3_129 : zIv RX3 129 0 yX0_packedEntry cX0_packedEntry 2 (some .int) 1 := ⟨_, rfl, (zw_of 283 (by decide +kernel) rfl), (zw_of 284 (by decide +kernel) rfl), (zw_of 285 (by decide +kernel) rfl), (zw_of 32 (by decide +kernel) rfl), (zw_of 286 (by decide +kernel) rfl), ⟨⟨by decide +kernel, by decide +kernel⟩, by decide +kernel⟩⟩
theorem ivX3_138 : zIv RX3 138 0 yX0_chainAt cX0_chainAt 2 (some .int) 1 := ⟨_, rfl, (zw_of 288 (by decide +kernel) rfl), (zw_of 232 (by decide +kernel) rfl), (zw_of 233 (by decide +kernel) rfl), (zw_of 32 (by decide +kernel) rfl), (zw_of 234 (by decide +kernel) rfl), ⟨⟨by decide +kernel, by decide +kernel⟩, by decide +kernel⟩⟩
theorem flX3_141 : zFld RX3 141 0 7 := ⟨RX0, TX0, 9, rfl, by decide, (zw_of 106 (by decide +kernel) rfl), rfl, zlayX0⟩
theorem ivX3_148 : zIs RX3 148 yX3_othersOf cX3_othersOf 2 (some .int) 2 := ⟨(zw_of 610 (by decide +kernel) rfl), (zw_of 157 (by decide +kernel) rfl), (zw_of 30 (by decide +kernel) rfl), (zw_of 158 (by decide +kernel) rfl), ⟨⟨by decide +kernel, by decide +kernel⟩, by decide +kernel⟩⟩
theorem flX3_153 : zFld RX3 153 0 4 := ⟨RX0, TX0, 9, rfl, by decide, (zw_of 98 (by decide +kernel) rfl), rfl, zlayX0⟩
theorem ptX3_153 : zPut RX3 153 0 4 .int := ⟨RX0, TX0, 9, tyX0, rfl, by decide, (zw_of 98 (by decide +kernel) rfl), rfl, rfl, by decide +kernel, zlayX0, tyX0_ok, nmX0⟩
theorem ivX3_156 : zIv RX3 156 0 yX0_hasWitness cX0_hasWitness 2 (some .boolean) 1 := ⟨_, rfl, (zw_of 619 (by decide +kernel) rfl), (zw_of 212 (by decide +kernel) rfl), (zw_of 213 (by decide +kernel) rfl), (zw_of 32 (by decide +kernel) rfl), (zw_of 214 (by decide +kernel) rfl), ⟨⟨by decide +kernel, by decide +kernel⟩, by decide +kernel⟩⟩
theorem flX3_161 : zFld RX3 161 0 5 := ⟨RX0, TX0, 9, rfl, by decide, (zw_of 101 (by decide +kernel) rfl), rfl, zlayX0⟩
theorem ivX3_165 : zIv RX3 165 2 yX2_judge cX2_judge 4 (some .int) 2 := ⟨_, rfl, (zw_of 621 (by decide +kernel) rfl), (zw_of 216 (by decide +kernel) rfl), (zw_of 217 (by decide +kernel) rfl), (zw_of 31 (by decide +kernel) rfl), (zw_of 218 (by decide +kernel) rfl), ⟨⟨by decide +kernel, by decide +kernel⟩, by decide +kernel⟩⟩
theorem ivX3_169 : zIv RX3 169 2 yX2_judgeByAll cX2_judgeByAll 5 (some .int) 1 := ⟨_, rfl, (zw_of 207 (by decide +kernel) rfl), (zw_of 208 (by decide +kernel) rfl), (zw_of 209 (by decide +kernel) rfl), (zw_of 31 (by decide +kernel) rfl), (zw_of 210 (by decide +kernel) rfl), ⟨⟨by decide +kernel, by decide +kernel⟩, by decide +kernel⟩⟩
theorem ivX3_175 : zIv RX3 175 2 yX2_someWitnessSays cX2_someWitnessSays 4 (some .boolean) 2 := ⟨_, rfl, (zw_of 637 (by decide +kernel) rfl), (zw_of 638 (by decide +kernel) rfl), (zw_of 639 (by decide +kernel) rfl), (zw_of 31 (by decide +kernel) rfl), (zw_of 640 (by decide +kernel) rfl), ⟨⟨by decide +kernel, by decide +kernel⟩, by decide +kernel⟩⟩
theorem flX3_179 : zFld RX3 179 2 3 := ⟨RX2, TX2, 4, rfl, by decide, (zw_of 138 (by decide +kernel) rfl), rfl, zlayX2⟩
theorem flX3_184 : zFld RX3 184 3 2 := ⟨RX3, TX3, 4, rfl, by decide, (zw_of 167 (by decide +kernel) rfl), rfl, zlayX3⟩
theorem flX3_189 : zFld RX3 189 3 3 := ⟨RX3, TX3, 4, rfl, by decide, (zw_of 168 (by decide +kernel) rfl), rfl, zlayX3⟩
theorem ptX3_189 : zPut RX3 189 3 3 .int := ⟨RX3, TX3, 4, tyX3, rfl, by decide, (zw_of 168 (by decide +kernel) rfl), rfl, rfl, by decide +kernel, zlayX3, tyX3_ok, nmX3⟩
theorem ivX3_192 : zIv RX3 192 2 yX2_copyWorld cX2_copyWorld 3 none 1 := ⟨_, rfl, (zw_of 190 (by decide +kernel) rfl), (zw_of 191 (by decide +kernel) rfl), (zw_of 192 (by decide +kernel) rfl), (zw_of 31 (by decide +kernel) rfl), (zw_of 193 (by decide +kernel) rfl), ⟨⟨by decide +kernel, by decide +kernel⟩, by decide +kernel⟩⟩
theorem ptX3_184 : zPut RX3 184 3 2 .int := ⟨RX3, TX3, 4, tyX3, rfl, by decide, (zw_of 167 (by decide +kernel) rfl), rfl, rfl, by decide +kernel, zlayX3, tyX3_ok, nmX3⟩
theorem ivX3_198 : zIs RX3 198 yX3_mix cX3_mix 4 (some .long) 2 := ⟨(zw_of 276 (by decide +kernel) rfl), (zw_of 277 (by decide +kernel) rfl), (zw_of 30 (by decide +kernel) rfl), (zw_of 278 (by decide +kernel) rfl), ⟨⟨by decide +kernel, by decide +kernel⟩, by decide +kernel⟩⟩
theorem ivX3_202 : zIs RX3 202 yX3_mixMachine cX3_mixMachine 8 (some .long) 3 := ⟨(zw_of 280 (by decide +kernel) rfl), (zw_of 281 (by decide +kernel) rfl), (zw_of 30 (by decide +kernel) rfl), (zw_of 282 (by decide +kernel) rfl), ⟨⟨by decide +kernel, by decide +kernel⟩, by decide +kernel⟩⟩
theorem ivX3_206 : zIs RX3 206 yX3_mixQueue cX3_mixQueue 6 (some .long) 2 := ⟨(zw_of 289 (by decide +kernel) rfl), (zw_of 290 (by decide +kernel) rfl), (zw_of 30 (by decide +kernel) rfl), (zw_of 291 (by decide +kernel) rfl), ⟨⟨by decide +kernel, by decide +kernel⟩, by decide +kernel⟩⟩
theorem ivX3_210 : zIs RX3 210 yX3_mixEvidence cX3_mixEvidence 7 (some .long) 2 := ⟨(zw_of 293 (by decide +kernel) rfl), (zw_of 294 (by decide +kernel) rfl), (zw_of 30 (by decide +kernel) rfl), (zw_of 295 (by decide +kernel) rfl), ⟨⟨by decide +kernel, by decide +kernel⟩, by decide +kernel⟩⟩
theorem ivX3_213 : zIv RX3 213 2 yX2_isMachine cX2_isMachine 2 (some .boolean) 1 := ⟨_, rfl, (zw_of 385 (by decide +kernel) rfl), (zw_of 386 (by decide +kernel) rfl), (zw_of 387 (by decide +kernel) rfl), (zw_of 31 (by decide +kernel) rfl), (zw_of 388 (by decide +kernel) rfl), ⟨⟨by decide +kernel, by decide +kernel⟩, by decide +kernel⟩⟩
theorem flX3_90 : zFld RX3 90 0 2 := ⟨RX0, TX0, 9, rfl, by decide, (zw_of 92 (by decide +kernel) rfl), rfl, zlayX0⟩
theorem ivX4_16 : zIv RX4 16 4 yX4_begins cX4_begins 3 none 1 := ⟨_, rfl, (zw_of 663 (by decide +kernel) rfl), (zw_of 665 (by decide +kernel) rfl), (zw_of 4 (by decide +kernel) rfl), (zw_of 34 (by decide +kernel) rfl), (zw_of 666 (by decide +kernel) rfl), ⟨⟨by decide +kernel, by decide +kernel⟩, by decide +kernel⟩⟩
theorem flX4_20 : zFld RX4 20 4 3 := ⟨RX4, TX4, 5, rfl, by decide, (zw_of 673 (by decide +kernel) rfl), rfl, zlayX4⟩
theorem ptX4_20 : zPut RX4 20 4 3 .int := ⟨RX4, TX4, 5, tyX4, rfl, by decide, (zw_of 673 (by decide +kernel) rfl), rfl, rfl, by decide +kernel, zlayX4, tyX4_ok, nmX4⟩
theorem flX4_7 : zFld RX4 7 4 0 := ⟨RX4, TX4, 5, rfl, by decide, (zw_of 670 (by decide +kernel) rfl), rfl, zlayX4⟩
theorem ivX4_24 : zIs RX4 24 yX4_within cX4_within 3 (some .boolean) 3 := ⟨(zw_of 702 (by decide +kernel) rfl), (zw_of 703 (by decide +kernel) rfl), (zw_of 34 (by decide +kernel) rfl), (zw_of 704 (by decide +kernel) rfl), ⟨⟨by decide +kernel, by decide +kernel⟩, by decide +kernel⟩⟩
theorem ivX4_28 : zIs RX4 28 yX4_at cX4_at 2 (some .int) 2 := ⟨(zw_of 667 (by decide +kernel) rfl), (zw_of 668 (by decide +kernel) rfl), (zw_of 34 (by decide +kernel) rfl), (zw_of 669 (by decide +kernel) rfl), ⟨⟨by decide +kernel, by decide +kernel⟩, by decide +kernel⟩⟩
theorem flX4_32 : zFld RX4 32 4 2 := ⟨RX4, TX4, 5, rfl, by decide, (zw_of 672 (by decide +kernel) rfl), rfl, zlayX4⟩
theorem flX4_13 : zFld RX4 13 4 1 := ⟨RX4, TX4, 5, rfl, by decide, (zw_of 671 (by decide +kernel) rfl), rfl, zlayX4⟩
theorem ptX4_32 : zPut RX4 32 4 2 .int := ⟨RX4, TX4, 5, tyX4, rfl, by decide, (zw_of 672 (by decide +kernel) rfl), rfl, rfl, by decide +kernel, zlayX4, tyX4_ok, nmX4⟩
theorem ivX4_35 : zIv RX4 35 4 yX4_refused cX4_refused 2 (some .boolean) 1 := ⟨_, rfl, (zw_of 694 (by decide +kernel) rfl), (zw_of 696 (by decide +kernel) rfl), (zw_of 5 (by decide +kernel) rfl), (zw_of 34 (by decide +kernel) rfl), (zw_of 697 (by decide +kernel) rfl), ⟨⟨by decide +kernel, by decide +kernel⟩, by decide +kernel⟩⟩
theorem ivX4_40 : zIv RX4 40 4 yX4_get cX4_get 3 (some .int) 2 := ⟨_, rfl, (zw_of 725 (by decide +kernel) rfl), (zw_of 727 (by decide +kernel) rfl), (zw_of 10 (by decide +kernel) rfl), (zw_of 34 (by decide +kernel) rfl), (zw_of 728 (by decide +kernel) rfl), ⟨⟨by decide +kernel, by decide +kernel⟩, by decide +kernel⟩⟩
theorem ivX4_43 : zIv RX4 43 4 yX4_entryAt cX4_entryAt 3 (some .int) 2 := ⟨_, rfl, (zw_of 752 (by decide +kernel) rfl), (zw_of 754 (by decide +kernel) rfl), (zw_of 15 (by decide +kernel) rfl), (zw_of 34 (by decide +kernel) rfl), (zw_of 755 (by decide +kernel) rfl), ⟨⟨by decide +kernel, by decide +kernel⟩, by decide +kernel⟩⟩
theorem ivX4_50 : zIs RX4 50 yX4_kindOf cX4_kindOf 1 (some .int) 1 := ⟨(zw_of 758 (by decide +kernel) rfl), (zw_of 759 (by decide +kernel) rfl), (zw_of 34 (by decide +kernel) rfl), (zw_of 760 (by decide +kernel) rfl), ⟨⟨by decide +kernel, by decide +kernel⟩, by decide +kernel⟩⟩
theorem ivX4_56 : zIs RX4 56 yX4_peerOf cX4_peerOf 1 (some .int) 1 := ⟨(zw_of 762 (by decide +kernel) rfl), (zw_of 763 (by decide +kernel) rfl), (zw_of 34 (by decide +kernel) rfl), (zw_of 764 (by decide +kernel) rfl), ⟨⟨by decide +kernel, by decide +kernel⟩, by decide +kernel⟩⟩
theorem ivX4_61 : zIs RX4 61 yX4_valueOf cX4_valueOf 1 (some .int) 1 := ⟨(zw_of 766 (by decide +kernel) rfl), (zw_of 767 (by decide +kernel) rfl), (zw_of 34 (by decide +kernel) rfl), (zw_of 768 (by decide +kernel) rfl), ⟨⟨by decide +kernel, by decide +kernel⟩, by decide +kernel⟩⟩
theorem ivX4_66 : zIv RX4 66 4 yX4_many cX4_many 1 (some .int) 0 := ⟨_, rfl, (zw_of 709 (by decide +kernel) rfl), (zw_of 711 (by decide +kernel) rfl), (zw_of 7 (by decide +kernel) rfl), (zw_of 34 (by decide +kernel) rfl), (zw_of 712 (by decide +kernel) rfl), ⟨⟨by decide +kernel, by decide +kernel⟩, by decide +kernel⟩⟩
theorem ivX4_70 : zIs RX4 70 yX4_entryOf cX4_entryOf 3 (some .int) 3 := ⟨(zw_of 733 (by decide +kernel) rfl), (zw_of 734 (by decide +kernel) rfl), (zw_of 34 (by decide +kernel) rfl), (zw_of 735 (by decide +kernel) rfl), ⟨⟨by decide +kernel, by decide +kernel⟩, by decide +kernel⟩⟩
theorem ivX4_74 : zIv RX4 74 4 yX4_logs cX4_logs 3 none 2 := ⟨_, rfl, (zw_of 737 (by decide +kernel) rfl), (zw_of 739 (by decide +kernel) rfl), (zw_of 12 (by decide +kernel) rfl), (zw_of 34 (by decide +kernel) rfl), (zw_of 740 (by decide +kernel) rfl), ⟨⟨by decide +kernel, by decide +kernel⟩, by decide +kernel⟩⟩
theorem ivX4_78 : zIs RX4 78 yX4_behind cX4_behind 3 (some .int) 3 := ⟨(zw_of 741 (by decide +kernel) rfl), (zw_of 742 (by decide +kernel) rfl), (zw_of 34 (by decide +kernel) rfl), (zw_of 743 (by decide +kernel) rfl), ⟨⟨by decide +kernel, by decide +kernel⟩, by decide +kernel⟩⟩
theorem ivX4_81 : zIv RX4 81 4 yX4_goesTo cX4_goesTo 3 (some .int) 2 := ⟨_, rfl, (zw_of 744 (by decide +kernel) rfl), (zw_of 746 (by decide +kernel) rfl), (zw_of 13 (by decide +kernel) rfl), (zw_of 34 (by decide +kernel) rfl), (zw_of 747 (by decide +kernel) rfl), ⟨⟨by decide +kernel, by decide +kernel⟩, by decide +kernel⟩⟩
theorem ivX4_84 : zIv RX4 84 4 yX4_chainAt cX4_chainAt 7 (some .int) 2 := ⟨_, rfl, (zw_of 748 (by decide +kernel) rfl), (zw_of 750 (by decide +kernel) rfl), (zw_of 14 (by decide +kernel) rfl), (zw_of 34 (by decide +kernel) rfl), (zw_of 751 (by decide +kernel) rfl), ⟨⟨by decide +kernel, by decide +kernel⟩, by decide +kernel⟩⟩
theorem ivX4_87 : zIv RX4 87 4 yX4_puts cX4_puts 7 none 6 := ⟨_, rfl, (zw_of 770 (by decide +kernel) rfl), (zw_of 772 (by decide +kernel) rfl), (zw_of 16 (by decide +kernel) rfl), (zw_of 34 (by decide +kernel) rfl), (zw_of 773 (by decide +kernel) rfl), ⟨⟨by decide +kernel, by decide +kernel⟩, by decide +kernel⟩⟩
theorem ivX4_91 : zIv RX4 91 4 yX4_hasRoom cX4_hasRoom 2 (some .boolean) 1 := ⟨_, rfl, (zw_of 721 (by decide +kernel) rfl), (zw_of 723 (by decide +kernel) rfl), (zw_of 9 (by decide +kernel) rfl), (zw_of 34 (by decide +kernel) rfl), (zw_of 724 (by decide +kernel) rfl), ⟨⟨by decide +kernel, by decide +kernel⟩, by decide +kernel⟩⟩
theorem ivX4_94 : zIv RX4 94 4 yX4_comesToHold cX4_comesToHold 6 none 4 := ⟨_, rfl, (zw_of 786 (by decide +kernel) rfl), (zw_of 788 (by decide +kernel) rfl), (zw_of 19 (by decide +kernel) rfl), (zw_of 34 (by decide +kernel) rfl), (zw_of 789 (by decide +kernel) rfl), ⟨⟨by decide +kernel, by decide +kernel⟩, by decide +kernel⟩⟩
theorem ivX4_98 : zIv RX4 98 4 yX4_takes cX4_takes 9 none 4 := ⟨_, rfl, (zw_of 729 (by decide +kernel) rfl), (zw_of 731 (by decide +kernel) rfl), (zw_of 11 (by decide +kernel) rfl), (zw_of 34 (by decide +kernel) rfl), (zw_of 732 (by decide +kernel) rfl), ⟨⟨by decide +kernel, by decide +kernel⟩, by decide +kernel⟩⟩
theorem ivX4_101 : zIv RX4 101 4 yX4_saves cX4_saves 2 none 0 := ⟨_, rfl, (zw_of 705 (by decide +kernel) rfl), (zw_of 707 (by decide +kernel) rfl), (zw_of 6 (by decide +kernel) rfl), (zw_of 34 (by decide +kernel) rfl), (zw_of 708 (by decide +kernel) rfl), ⟨⟨by decide +kernel, by decide +kernel⟩, by decide +kernel⟩⟩
theorem ivX4_104 : zIv RX4 104 4 yX4_isMachine cX4_isMachine 2 (some .boolean) 1 := ⟨_, rfl, (zw_of 717 (by decide +kernel) rfl), (zw_of 719 (by decide +kernel) rfl), (zw_of 8 (by decide +kernel) rfl), (zw_of 34 (by decide +kernel) rfl), (zw_of 720 (by decide +kernel) rfl), ⟨⟨by decide +kernel, by decide +kernel⟩, by decide +kernel⟩⟩
theorem ivX4_107 : zIv RX4 107 4 yX4_isBarred cX4_isBarred 2 (some .boolean) 0 := ⟨_, rfl, (zw_of 778 (by decide +kernel) rfl), (zw_of 780 (by decide +kernel) rfl), (zw_of 17 (by decide +kernel) rfl), (zw_of 34 (by decide +kernel) rfl), (zw_of 781 (by decide +kernel) rfl), ⟨⟨by decide +kernel, by decide +kernel⟩, by decide +kernel⟩⟩
theorem ivX4_111 : zIv RX4 111 4 yX4_delivers cX4_delivers 7 none 0 := ⟨_, rfl, (zw_of 782 (by decide +kernel) rfl), (zw_of 784 (by decide +kernel) rfl), (zw_of 18 (by decide +kernel) rfl), (zw_of 34 (by decide +kernel) rfl), (zw_of 785 (by decide +kernel) rfl), ⟨⟨by decide +kernel, by decide +kernel⟩, by decide +kernel⟩⟩
theorem ivX4_114 : zIv RX4 114 4 yX4_isEntry cX4_isEntry 3 (some .boolean) 2 := ⟨_, rfl, (zw_of 822 (by decide +kernel) rfl), (zw_of 824 (by decide +kernel) rfl), (zw_of 20 (by decide +kernel) rfl), (zw_of 34 (by decide +kernel) rfl), (zw_of 825 (by decide +kernel) rfl), ⟨⟨by decide +kernel, by decide +kernel⟩, by decide +kernel⟩⟩
theorem ivX4_118 : zIv RX4 118 4 yX4_proves cX4_proves 6 none 4 := ⟨_, rfl, (zw_of 874 (by decide +kernel) rfl), (zw_of 876 (by decide +kernel) rfl), (zw_of 25 (by decide +kernel) rfl), (zw_of 34 (by decide +kernel) rfl), (zw_of 877 (by decide +kernel) rfl), ⟨⟨by decide +kernel, by decide +kernel⟩, by decide +kernel⟩⟩
theorem ivX4_121 : zIv RX4 121 4 yX4_mismatch cX4_mismatch 6 (some .int) 1 := ⟨_, rfl, (zw_of 866 (by decide +kernel) rfl), (zw_of 868 (by decide +kernel) rfl), (zw_of 23 (by decide +kernel) rfl), (zw_of 34 (by decide +kernel) rfl), (zw_of 869 (by decide +kernel) rfl), ⟨⟨by decide +kernel, by decide +kernel⟩, by decide +kernel⟩⟩
theorem ivX4_124 : zIv RX4 124 4 yX4_exposes cX4_exposes 5 (some .int) 4 := ⟨_, rfl, (zw_of 870 (by decide +kernel) rfl), (zw_of 872 (by decide +kernel) rfl), (zw_of 24 (by decide +kernel) rfl), (zw_of 34 (by decide +kernel) rfl), (zw_of 873 (by decide +kernel) rfl), ⟨⟨by decide +kernel, by decide +kernel⟩, by decide +kernel⟩⟩
theorem ivX4_128 : zIv RX4 128 4 yX4_replayed cX4_replayed 6 (some .int) 1 := ⟨_, rfl, (zw_of 878 (by decide +kernel) rfl), (zw_of 880 (by decide +kernel) rfl), (zw_of 26 (by decide +kernel) rfl), (zw_of 34 (by decide +kernel) rfl), (zw_of 881 (by decide +kernel) rfl), ⟨⟨by decide +kernel, by decide +kernel⟩, by decide +kernel⟩⟩
theorem ivX4_131 : zIv RX4 131 4 yX4_isWitness cX4_isWitness 3 (some .boolean) 2 := ⟨_, rfl, (zw_of 858 (by decide +kernel) rfl), (zw_of 860 (by decide +kernel) rfl), (zw_of 21 (by decide +kernel) rfl), (zw_of 34 (by decide +kernel) rfl), (zw_of 861 (by decide +kernel) rfl), ⟨⟨by decide +kernel, by decide +kernel⟩, by decide +kernel⟩⟩
theorem ivX4_134 : zIv RX4 134 4 yX4_judged cX4_judged 4 (some .int) 2 := ⟨_, rfl, (zw_of 862 (by decide +kernel) rfl), (zw_of 864 (by decide +kernel) rfl), (zw_of 22 (by decide +kernel) rfl), (zw_of 34 (by decide +kernel) rfl), (zw_of 865 (by decide +kernel) rfl), ⟨⟨by decide +kernel, by decide +kernel⟩, by decide +kernel⟩⟩
theorem flX4_137 : zFld RX4 137 4 4 := ⟨RX4, TX4, 5, rfl, by decide, (zw_of 674 (by decide +kernel) rfl), rfl, zlayX4⟩
theorem ptX4_137 : zPut RX4 137 4 4 .long := ⟨RX4, TX4, 5, tyX4, rfl, by decide, (zw_of 674 (by decide +kernel) rfl), rfl, rfl, by decide +kernel, zlayX4, tyX4_ok, nmX4⟩
theorem ivX4_141 : zIv RX4 141 4 yX4_mix cX4_mix 2 none 1 := ⟨_, rfl, (zw_of 907 (by decide +kernel) rfl), (zw_of 909 (by decide +kernel) rfl), (zw_of 27 (by decide +kernel) rfl), (zw_of 34 (by decide +kernel) rfl), (zw_of 910 (by decide +kernel) rfl), ⟨⟨by decide +kernel, by decide +kernel⟩, by decide +kernel⟩⟩
theorem ivX4_146 : zIv RX4 146 4 yX4_mixMachine cX4_mixMachine 3 none 1 := ⟨_, rfl, (zw_of 911 (by decide +kernel) rfl), (zw_of 913 (by decide +kernel) rfl), (zw_of 28 (by decide +kernel) rfl), (zw_of 34 (by decide +kernel) rfl), (zw_of 914 (by decide +kernel) rfl), ⟨⟨by decide +kernel, by decide +kernel⟩, by decide +kernel⟩⟩
theorem ivL_7 : zIv RL 7 3 yX3_reset cX3_reset 3 (some .int) 1 := ⟨_, rfl, (zw_of 300 (by decide +kernel) rfl), (zw_of 301 (by decide +kernel) rfl), (zw_of 302 (by decide +kernel) rfl), (zw_of 30 (by decide +kernel) rfl), (zw_of 303 (by decide +kernel) rfl), ⟨⟨by decide +kernel, by decide +kernel⟩, by decide +kernel⟩⟩
theorem ivL_15 : zIv RL 15 3 yX3_input cX3_input 4 (some .int) 2 := ⟨_, rfl, (zw_of 377 (by decide +kernel) rfl), (zw_of 378 (by decide +kernel) rfl), (zw_of 379 (by decide +kernel) rfl), (zw_of 30 (by decide +kernel) rfl), (zw_of 380 (by decide +kernel) rfl), ⟨⟨by decide +kernel, by decide +kernel⟩, by decide +kernel⟩⟩
theorem ivL_23 : zIv RL 23 3 yX3_deliver cX3_deliver 2 (some .int) 0 := ⟨_, rfl, (zw_of 456 (by decide +kernel) rfl), (zw_of 457 (by decide +kernel) rfl), (zw_of 458 (by decide +kernel) rfl), (zw_of 30 (by decide +kernel) rfl), (zw_of 459 (by decide +kernel) rfl), ⟨⟨by decide +kernel, by decide +kernel⟩, by decide +kernel⟩⟩
theorem ivL_27 : zIv RL 27 3 yX3_run cX3_run 3 (some .int) 1 := ⟨_, rfl, (zw_of 497 (by decide +kernel) rfl), (zw_of 498 (by decide +kernel) rfl), (zw_of 499 (by decide +kernel) rfl), (zw_of 30 (by decide +kernel) rfl), (zw_of 500 (by decide +kernel) rfl), ⟨⟨by decide +kernel, by decide +kernel⟩, by decide +kernel⟩⟩
theorem ivL_30 : zIv RL 30 3 yX3_state cX3_state 2 (some .int) 1 := ⟨_, rfl, (zw_of 505 (by decide +kernel) rfl), (zw_of 506 (by decide +kernel) rfl), (zw_of 507 (by decide +kernel) rfl), (zw_of 30 (by decide +kernel) rfl), (zw_of 508 (by decide +kernel) rfl), ⟨⟨by decide +kernel, by decide +kernel⟩, by decide +kernel⟩⟩
theorem ivL_33 : zIv RL 33 3 yX3_setSilent cX3_setSilent 4 (some .int) 2 := ⟨_, rfl, (zw_of 512 (by decide +kernel) rfl), (zw_of 513 (by decide +kernel) rfl), (zw_of 514 (by decide +kernel) rfl), (zw_of 30 (by decide +kernel) rfl), (zw_of 515 (by decide +kernel) rfl), ⟨⟨by decide +kernel, by decide +kernel⟩, by decide +kernel⟩⟩
theorem ivL_37 : zIv RL 37 3 yX3_pending cX3_pending 2 (some .int) 1 := ⟨_, rfl, (zw_of 519 (by decide +kernel) rfl), (zw_of 520 (by decide +kernel) rfl), (zw_of 521 (by decide +kernel) rfl), (zw_of 30 (by decide +kernel) rfl), (zw_of 522 (by decide +kernel) rfl), ⟨⟨by decide +kernel, by decide +kernel⟩, by decide +kernel⟩⟩
theorem ivL_40 : zIv RL 40 3 yX3_resend cX3_resend 5 (some .int) 1 := ⟨_, rfl, (zw_of 526 (by decide +kernel) rfl), (zw_of 527 (by decide +kernel) rfl), (zw_of 528 (by decide +kernel) rfl), (zw_of 30 (by decide +kernel) rfl), (zw_of 529 (by decide +kernel) rfl), ⟨⟨by decide +kernel, by decide +kernel⟩, by decide +kernel⟩⟩
theorem ivL_43 : zIv RL 43 3 yX3_lie cX3_lie 4 (some .boolean) 1 := ⟨_, rfl, (zw_of 536 (by decide +kernel) rfl), (zw_of 537 (by decide +kernel) rfl), (zw_of 538 (by decide +kernel) rfl), (zw_of 30 (by decide +kernel) rfl), (zw_of 539 (by decide +kernel) rfl), ⟨⟨by decide +kernel, by decide +kernel⟩, by decide +kernel⟩⟩
theorem ivL_47 : zIv RL 47 3 yX3_tamper cX3_tamper 6 (some .int) 3 := ⟨_, rfl, (zw_of 543 (by decide +kernel) rfl), (zw_of 544 (by decide +kernel) rfl), (zw_of 545 (by decide +kernel) rfl), (zw_of 30 (by decide +kernel) rfl), (zw_of 546 (by decide +kernel) rfl), ⟨⟨by decide +kernel, by decide +kernel⟩, by decide +kernel⟩⟩
theorem ivL_51 : zIv RL 51 3 yX3_cut cX3_cut 4 (some .int) 2 := ⟨_, rfl, (zw_of 560 (by decide +kernel) rfl), (zw_of 561 (by decide +kernel) rfl), (zw_of 562 (by decide +kernel) rfl), (zw_of 30 (by decide +kernel) rfl), (zw_of 563 (by decide +kernel) rfl), ⟨⟨by decide +kernel, by decide +kernel⟩, by decide +kernel⟩⟩
theorem ivL_54 : zIv RL 54 3 yX3_logLength cX3_logLength 2 (some .int) 1 := ⟨_, rfl, (zw_of 568 (by decide +kernel) rfl), (zw_of 569 (by decide +kernel) rfl), (zw_of 570 (by decide +kernel) rfl), (zw_of 30 (by decide +kernel) rfl), (zw_of 571 (by decide +kernel) rfl), ⟨⟨by decide +kernel, by decide +kernel⟩, by decide +kernel⟩⟩
theorem ivL_57 : zIv RL 57 3 yX3_entry cX3_entry 3 (some .int) 2 := ⟨_, rfl, (zw_of 575 (by decide +kernel) rfl), (zw_of 576 (by decide +kernel) rfl), (zw_of 577 (by decide +kernel) rfl), (zw_of 30 (by decide +kernel) rfl), (zw_of 578 (by decide +kernel) rfl), ⟨⟨by decide +kernel, by decide +kernel⟩, by decide +kernel⟩⟩
theorem ivL_60 : zIv RL 60 3 yX3_chain cX3_chain 4 (some .int) 2 := ⟨_, rfl, (zw_of 582 (by decide +kernel) rfl), (zw_of 583 (by decide +kernel) rfl), (zw_of 584 (by decide +kernel) rfl), (zw_of 30 (by decide +kernel) rfl), (zw_of 585 (by decide +kernel) rfl), ⟨⟨by decide +kernel, by decide +kernel⟩, by decide +kernel⟩⟩
theorem ivL_63 : zIv RL 63 3 yX3_held cX3_held 2 (some .int) 1 := ⟨_, rfl, (zw_of 590 (by decide +kernel) rfl), (zw_of 591 (by decide +kernel) rfl), (zw_of 592 (by decide +kernel) rfl), (zw_of 30 (by decide +kernel) rfl), (zw_of 593 (by decide +kernel) rfl), ⟨⟨by decide +kernel, by decide +kernel⟩, by decide +kernel⟩⟩
theorem ivL_66 : zIv RL 66 3 yX3_authenticator cX3_authenticator 5 (some .int) 3 := ⟨_, rfl, (zw_of 597 (by decide +kernel) rfl), (zw_of 598 (by decide +kernel) rfl), (zw_of 599 (by decide +kernel) rfl), (zw_of 30 (by decide +kernel) rfl), (zw_of 600 (by decide +kernel) rfl), ⟨⟨by decide +kernel, by decide +kernel⟩, by decide +kernel⟩⟩
theorem ivL_69 : zIv RL 69 3 yX3_setWitnesses cX3_setWitnesses 5 (some .int) 2 := ⟨_, rfl, (zw_of 606 (by decide +kernel) rfl), (zw_of 607 (by decide +kernel) rfl), (zw_of 608 (by decide +kernel) rfl), (zw_of 30 (by decide +kernel) rfl), (zw_of 609 (by decide +kernel) rfl), ⟨⟨by decide +kernel, by decide +kernel⟩, by decide +kernel⟩⟩
theorem ivL_72 : zIv RL 72 3 yX3_audit cX3_audit 4 (some .int) 2 := ⟨_, rfl, (zw_of 615 (by decide +kernel) rfl), (zw_of 616 (by decide +kernel) rfl), (zw_of 617 (by decide +kernel) rfl), (zw_of 30 (by decide +kernel) rfl), (zw_of 618 (by decide +kernel) rfl), ⟨⟨by decide +kernel, by decide +kernel⟩, by decide +kernel⟩⟩
theorem ivL_75 : zIv RL 75 3 yX3_verdict cX3_verdict 3 (some .int) 2 := ⟨_, rfl, (zw_of 625 (by decide +kernel) rfl), (zw_of 626 (by decide +kernel) rfl), (zw_of 627 (by decide +kernel) rfl), (zw_of 30 (by decide +kernel) rfl), (zw_of 628 (by decide +kernel) rfl), ⟨⟨by decide +kernel, by decide +kernel⟩, by decide +kernel⟩⟩
theorem ivL_78 : zIv RL 78 3 yX3_verdictMask cX3_verdictMask 4 (some .int) 1 := ⟨_, rfl, (zw_of 632 (by decide +kernel) rfl), (zw_of 633 (by decide +kernel) rfl), (zw_of 634 (by decide +kernel) rfl), (zw_of 30 (by decide +kernel) rfl), (zw_of 635 (by decide +kernel) rfl), ⟨⟨by decide +kernel, by decide +kernel⟩, by decide +kernel⟩⟩
theorem ivL_81 : zIv RL 81 3 yX3_evidence cX3_evidence 3 (some .int) 2 := ⟨_, rfl, (zw_of 644 (by decide +kernel) rfl), (zw_of 645 (by decide +kernel) rfl), (zw_of 646 (by decide +kernel) rfl), (zw_of 30 (by decide +kernel) rfl), (zw_of 647 (by decide +kernel) rfl), ⟨⟨by decide +kernel, by decide +kernel⟩, by decide +kernel⟩⟩
theorem ivL_84 : zIv RL 84 3 yX3_undo cX3_undo 1 (some .int) 0 := ⟨_, rfl, (zw_of 652 (by decide +kernel) rfl), (zw_of 653 (by decide +kernel) rfl), (zw_of 654 (by decide +kernel) rfl), (zw_of 30 (by decide +kernel) rfl), (zw_of 655 (by decide +kernel) rfl), ⟨⟨by decide +kernel, by decide +kernel⟩, by decide +kernel⟩⟩
theorem ivL_96 : zIv RL 96 4 yX4_reset cX4_reset 3 (some .int) 1 := ⟨_, rfl, (zw_of 698 (by decide +kernel) rfl), (zw_of 699 (by decide +kernel) rfl), (zw_of 700 (by decide +kernel) rfl), (zw_of 34 (by decide +kernel) rfl), (zw_of 701 (by decide +kernel) rfl), ⟨⟨by decide +kernel, by decide +kernel⟩, by decide +kernel⟩⟩
theorem ivL_97 : zIv RL 97 4 yX4_thrown cX4_thrown 1 (some .int) 0 := ⟨_, rfl, (zw_of 686 (by decide +kernel) rfl), (zw_of 687 (by decide +kernel) rfl), (zw_of 688 (by decide +kernel) rfl), (zw_of 34 (by decide +kernel) rfl), (zw_of 689 (by decide +kernel) rfl), ⟨⟨by decide +kernel, by decide +kernel⟩, by decide +kernel⟩⟩
theorem ivL_103 : zIv RL 103 4 yX4_input cX4_input 3 (some .int) 2 := ⟨_, rfl, (zw_of 713 (by decide +kernel) rfl), (zw_of 714 (by decide +kernel) rfl), (zw_of 715 (by decide +kernel) rfl), (zw_of 34 (by decide +kernel) rfl), (zw_of 716 (by decide +kernel) rfl), ⟨⟨by decide +kernel, by decide +kernel⟩, by decide +kernel⟩⟩
theorem ivL_107 : zIv RL 107 4 yX4_deliver cX4_deliver 2 (some .int) 0 := ⟨_, rfl, (zw_of 774 (by decide +kernel) rfl), (zw_of 775 (by decide +kernel) rfl), (zw_of 776 (by decide +kernel) rfl), (zw_of 34 (by decide +kernel) rfl), (zw_of 777 (by decide +kernel) rfl), ⟨⟨by decide +kernel, by decide +kernel⟩, by decide +kernel⟩⟩
theorem ivL_110 : zIv RL 110 4 yX4_run cX4_run 3 (some .int) 1 := ⟨_, rfl, (zw_of 790 (by decide +kernel) rfl), (zw_of 791 (by decide +kernel) rfl), (zw_of 792 (by decide +kernel) rfl), (zw_of 34 (by decide +kernel) rfl), (zw_of 793 (by decide +kernel) rfl), ⟨⟨by decide +kernel, by decide +kernel⟩, by decide +kernel⟩⟩
theorem ivL_111 : zIv RL 111 3 yX3_queued cX3_queued 1 (some .int) 0 := ⟨_, rfl, (zw_of 178 (by decide +kernel) rfl), (zw_of 179 (by decide +kernel) rfl), (zw_of 180 (by decide +kernel) rfl), (zw_of 30 (by decide +kernel) rfl), (zw_of 181 (by decide +kernel) rfl), ⟨⟨by decide +kernel, by decide +kernel⟩, by decide +kernel⟩⟩
theorem ivL_114 : zIv RL 114 4 yX4_queued cX4_queued 1 (some .int) 0 := ⟨_, rfl, (zw_of 794 (by decide +kernel) rfl), (zw_of 795 (by decide +kernel) rfl), (zw_of 796 (by decide +kernel) rfl), (zw_of 34 (by decide +kernel) rfl), (zw_of 797 (by decide +kernel) rfl), ⟨⟨by decide +kernel, by decide +kernel⟩, by decide +kernel⟩⟩
theorem ivL_117 : zIv RL 117 4 yX4_state cX4_state 2 (some .int) 1 := ⟨_, rfl, (zw_of 798 (by decide +kernel) rfl), (zw_of 799 (by decide +kernel) rfl), (zw_of 800 (by decide +kernel) rfl), (zw_of 34 (by decide +kernel) rfl), (zw_of 801 (by decide +kernel) rfl), ⟨⟨by decide +kernel, by decide +kernel⟩, by decide +kernel⟩⟩
theorem ivL_121 : zIv RL 121 4 yX4_setSilent cX4_setSilent 3 (some .int) 2 := ⟨_, rfl, (zw_of 802 (by decide +kernel) rfl), (zw_of 803 (by decide +kernel) rfl), (zw_of 804 (by decide +kernel) rfl), (zw_of 34 (by decide +kernel) rfl), (zw_of 805 (by decide +kernel) rfl), ⟨⟨by decide +kernel, by decide +kernel⟩, by decide +kernel⟩⟩
theorem ivL_124 : zIv RL 124 4 yX4_pending cX4_pending 2 (some .int) 1 := ⟨_, rfl, (zw_of 806 (by decide +kernel) rfl), (zw_of 807 (by decide +kernel) rfl), (zw_of 808 (by decide +kernel) rfl), (zw_of 34 (by decide +kernel) rfl), (zw_of 809 (by decide +kernel) rfl), ⟨⟨by decide +kernel, by decide +kernel⟩, by decide +kernel⟩⟩
theorem ivL_127 : zIv RL 127 4 yX4_resend cX4_resend 4 (some .int) 1 := ⟨_, rfl, (zw_of 810 (by decide +kernel) rfl), (zw_of 811 (by decide +kernel) rfl), (zw_of 812 (by decide +kernel) rfl), (zw_of 34 (by decide +kernel) rfl), (zw_of 813 (by decide +kernel) rfl), ⟨⟨by decide +kernel, by decide +kernel⟩, by decide +kernel⟩⟩
theorem ivL_130 : zIv RL 130 4 yX4_lie cX4_lie 3 (some .boolean) 1 := ⟨_, rfl, (zw_of 814 (by decide +kernel) rfl), (zw_of 815 (by decide +kernel) rfl), (zw_of 816 (by decide +kernel) rfl), (zw_of 34 (by decide +kernel) rfl), (zw_of 817 (by decide +kernel) rfl), ⟨⟨by decide +kernel, by decide +kernel⟩, by decide +kernel⟩⟩
theorem ivL_134 : zIv RL 134 4 yX4_tamper cX4_tamper 5 (some .int) 3 := ⟨_, rfl, (zw_of 818 (by decide +kernel) rfl), (zw_of 819 (by decide +kernel) rfl), (zw_of 820 (by decide +kernel) rfl), (zw_of 34 (by decide +kernel) rfl), (zw_of 821 (by decide +kernel) rfl), ⟨⟨by decide +kernel, by decide +kernel⟩, by decide +kernel⟩⟩
theorem ivL_137 : zIv RL 137 4 yX4_cut cX4_cut 3 (some .int) 2 := ⟨_, rfl, (zw_of 826 (by decide +kernel) rfl), (zw_of 827 (by decide +kernel) rfl), (zw_of 828 (by decide +kernel) rfl), (zw_of 34 (by decide +kernel) rfl), (zw_of 829 (by decide +kernel) rfl), ⟨⟨by decide +kernel, by decide +kernel⟩, by decide +kernel⟩⟩
theorem ivL_140 : zIv RL 140 4 yX4_logLength cX4_logLength 2 (some .int) 1 := ⟨_, rfl, (zw_of 830 (by decide +kernel) rfl), (zw_of 831 (by decide +kernel) rfl), (zw_of 832 (by decide +kernel) rfl), (zw_of 34 (by decide +kernel) rfl), (zw_of 833 (by decide +kernel) rfl), ⟨⟨by decide +kernel, by decide +kernel⟩, by decide +kernel⟩⟩
theorem ivL_143 : zIv RL 143 4 yX4_entry cX4_entry 3 (some .int) 2 := ⟨_, rfl, (zw_of 834 (by decide +kernel) rfl), (zw_of 835 (by decide +kernel) rfl), (zw_of 836 (by decide +kernel) rfl), (zw_of 34 (by decide +kernel) rfl), (zw_of 837 (by decide +kernel) rfl), ⟨⟨by decide +kernel, by decide +kernel⟩, by decide +kernel⟩⟩
theorem ivL_146 : zIv RL 146 4 yX4_chain cX4_chain 3 (some .int) 2 := ⟨_, rfl, (zw_of 838 (by decide +kernel) rfl), (zw_of 839 (by decide +kernel) rfl), (zw_of 840 (by decide +kernel) rfl), (zw_of 34 (by decide +kernel) rfl), (zw_of 841 (by decide +kernel) rfl), ⟨⟨by decide +kernel, by decide +kernel⟩, by decide +kernel⟩⟩
theorem ivL_149 : zIv RL 149 4 yX4_held cX4_held 2 (some .int) 1 := ⟨_, rfl, (zw_of 842 (by decide +kernel) rfl), (zw_of 843 (by decide +kernel) rfl), (zw_of 844 (by decide +kernel) rfl), (zw_of 34 (by decide +kernel) rfl), (zw_of 845 (by decide +kernel) rfl), ⟨⟨by decide +kernel, by decide +kernel⟩, by decide +kernel⟩⟩
theorem ivL_152 : zIv RL 152 4 yX4_authenticator cX4_authenticator 4 (some .int) 3 := ⟨_, rfl, (zw_of 846 (by decide +kernel) rfl), (zw_of 847 (by decide +kernel) rfl), (zw_of 848 (by decide +kernel) rfl), (zw_of 34 (by decide +kernel) rfl), (zw_of 849 (by decide +kernel) rfl), ⟨⟨by decide +kernel, by decide +kernel⟩, by decide +kernel⟩⟩
theorem ivL_155 : zIv RL 155 4 yX4_setWitnesses cX4_setWitnesses 4 (some .int) 2 := ⟨_, rfl, (zw_of 850 (by decide +kernel) rfl), (zw_of 851 (by decide +kernel) rfl), (zw_of 852 (by decide +kernel) rfl), (zw_of 34 (by decide +kernel) rfl), (zw_of 853 (by decide +kernel) rfl), ⟨⟨by decide +kernel, by decide +kernel⟩, by decide +kernel⟩⟩
theorem ivL_158 : zIv RL 158 4 yX4_audit cX4_audit 4 (some .int) 2 := ⟨_, rfl, (zw_of 854 (by decide +kernel) rfl), (zw_of 855 (by decide +kernel) rfl), (zw_of 856 (by decide +kernel) rfl), (zw_of 34 (by decide +kernel) rfl), (zw_of 857 (by decide +kernel) rfl), ⟨⟨by decide +kernel, by decide +kernel⟩, by decide +kernel⟩⟩
theorem ivL_159 : zIv RL 159 3 yX3_auditAll cX3_auditAll 3 (some .int) 0 := ⟨_, rfl, (zw_of 182 (by decide +kernel) rfl), (zw_of 183 (by decide +kernel) rfl), (zw_of 184 (by decide +kernel) rfl), (zw_of 30 (by decide +kernel) rfl), (zw_of 185 (by decide +kernel) rfl), ⟨⟨by decide +kernel, by decide +kernel⟩, by decide +kernel⟩⟩
theorem ivL_162 : zIv RL 162 4 yX4_auditAll cX4_auditAll 5 (some .int) 0 := ⟨_, rfl, (zw_of 882 (by decide +kernel) rfl), (zw_of 883 (by decide +kernel) rfl), (zw_of 884 (by decide +kernel) rfl), (zw_of 34 (by decide +kernel) rfl), (zw_of 885 (by decide +kernel) rfl), ⟨⟨by decide +kernel, by decide +kernel⟩, by decide +kernel⟩⟩
theorem ivL_165 : zIv RL 165 4 yX4_verdict cX4_verdict 3 (some .int) 2 := ⟨_, rfl, (zw_of 886 (by decide +kernel) rfl), (zw_of 887 (by decide +kernel) rfl), (zw_of 888 (by decide +kernel) rfl), (zw_of 34 (by decide +kernel) rfl), (zw_of 889 (by decide +kernel) rfl), ⟨⟨by decide +kernel, by decide +kernel⟩, by decide +kernel⟩⟩
theorem ivL_168 : zIv RL 168 4 yX4_verdictMask cX4_verdictMask 5 (some .int) 1 := ⟨_, rfl, (zw_of 890 (by decide +kernel) rfl), (zw_of 891 (by decide +kernel) rfl), (zw_of 892 (by decide +kernel) rfl), (zw_of 34 (by decide +kernel) rfl), (zw_of 893 (by decide +kernel) rfl), ⟨⟨by decide +kernel, by decide +kernel⟩, by decide +kernel⟩⟩
theorem ivL_169 : zIv RL 169 3 yX3_evidenceCount cX3_evidenceCount 1 (some .int) 0 := ⟨_, rfl, (zw_of 267 (by decide +kernel) rfl), (zw_of 268 (by decide +kernel) rfl), (zw_of 269 (by decide +kernel) rfl), (zw_of 30 (by decide +kernel) rfl), (zw_of 270 (by decide +kernel) rfl), ⟨⟨by decide +kernel, by decide +kernel⟩, by decide +kernel⟩⟩
theorem ivL_172 : zIv RL 172 4 yX4_evidenceCount cX4_evidenceCount 1 (some .int) 0 := ⟨_, rfl, (zw_of 894 (by decide +kernel) rfl), (zw_of 895 (by decide +kernel) rfl), (zw_of 896 (by decide +kernel) rfl), (zw_of 34 (by decide +kernel) rfl), (zw_of 897 (by decide +kernel) rfl), ⟨⟨by decide +kernel, by decide +kernel⟩, by decide +kernel⟩⟩
theorem ivL_175 : zIv RL 175 4 yX4_evidence cX4_evidence 3 (some .int) 2 := ⟨_, rfl, (zw_of 898 (by decide +kernel) rfl), (zw_of 899 (by decide +kernel) rfl), (zw_of 900 (by decide +kernel) rfl), (zw_of 34 (by decide +kernel) rfl), (zw_of 901 (by decide +kernel) rfl), ⟨⟨by decide +kernel, by decide +kernel⟩, by decide +kernel⟩⟩
theorem ivL_178 : zIv RL 178 4 yX4_undo cX4_undo 2 (some .int) 0 := ⟨_, rfl, (zw_of 690 (by decide +kernel) rfl), (zw_of 691 (by decide +kernel) rfl), (zw_of 692 (by decide +kernel) rfl), (zw_of 34 (by decide +kernel) rfl), (zw_of 693 (by decide +kernel) rfl), ⟨⟨by decide +kernel, by decide +kernel⟩, by decide +kernel⟩⟩
theorem ivL_179 : zIv RL 179 3 yX3_digest cX3_digest 4 (some .long) 0 := ⟨_, rfl, (zw_of 271 (by decide +kernel) rfl), (zw_of 272 (by decide +kernel) rfl), (zw_of 273 (by decide +kernel) rfl), (zw_of 30 (by decide +kernel) rfl), (zw_of 274 (by decide +kernel) rfl), ⟨⟨by decide +kernel, by decide +kernel⟩, by decide +kernel⟩⟩
theorem ivL_183 : zIv RL 183 4 yX4_digest cX4_digest 2 (some .long) 0 := ⟨_, rfl, (zw_of 902 (by decide +kernel) rfl), (zw_of 903 (by decide +kernel) rfl), (zw_of 904 (by decide +kernel) rfl), (zw_of 34 (by decide +kernel) rfl), (zw_of 905 (by decide +kernel) rfl), ⟨⟨by decide +kernel, by decide +kernel⟩, by decide +kernel⟩⟩
theorem ctX3_196 : zW (.constantLong RX3 196 (12833)) := (zw_of 275 (by decide +kernel) rfl)
theorem ctX3_222 : zW (.constantLong RX3 222 (31)) := (zw_of 279 (by decide +kernel) rfl)
theorem ctX0_71 : zW (.constant RX0 71 (100000)) := (zw_of 287 (by decide +kernel) rfl)
theorem ctX3_224 : zW (.constantLong RX3 224 (1000003)) := (zw_of 442 (by decide +kernel) rfl)
theorem ctX3_226 : zW (.constantLong RX3 226 (2147483647)) := (zw_of 443 (by decide +kernel) rfl)
theorem ctX4_39 : zW (.constant RX4 39 (100000)) := (zw_of 736 (by decide +kernel) rfl)
theorem ctX4_46 : zW (.constantLong RX4 46 (1000003)) := (zw_of 756 (by decide +kernel) rfl)
theorem ctX4_48 : zW (.constantLong RX4 48 (7)) := (zw_of 757 (by decide +kernel) rfl)
theorem ctX4_54 : zW (.constantLong RX4 54 (31)) := (zw_of 761 (by decide +kernel) rfl)
theorem ctX4_59 : zW (.constantLong RX4 59 (257)) := (zw_of 765 (by decide +kernel) rfl)
theorem ctX4_64 : zW (.constantLong RX4 64 (2147483647)) := (zw_of 769 (by decide +kernel) rfl)
theorem ctX4_144 : zW (.constantLong RX4 144 (12833)) := (zw_of 906 (by decide +kernel) rfl)
end
section
/-! ===== how the class's objects lie in the pool ===== -/
section ZLAY
variable {p : Program} {l : Launch} {e : Env} {R : Room} {s : State} {m : MethodId} {args : Array Value} {below : List Frame} {meth : Method} {c : Code} {H : Heap} {locs : List Loc} {cells slots : Nat} {Q : State → Prop} {pc : Nat} {ls : Array Slot} {rest : List Value}
theorem z_topi {x y : Int32} (h : x = y) (k : W p l e R s m args below meth c H locs cells slots Q (F0 m pc ls (.int y :: rest))) : W p l e R s m args below meth c H locs cells slots Q (F0 m pc ls (.int x :: rest)) := by
  rw [h]; exact k
theorem z_pc {pc2 : Nat} {st : List Value} (h : pc = pc2) (k : W p l e R s m args below meth c H locs cells slots Q (F0 m pc2 ls st)) : W p l e R s m args below meth c H locs cells slots Q (F0 m pc ls st) := by
  rw [h]; exact k
theorem z_topl {x y : Int64} (h : x = y) (k : W p l e R s m args below meth c H locs cells slots Q (F0 m pc ls (.long y :: rest))) : W p l e R s m args below meth c H locs cells slots Q (F0 m pc ls (.long x :: rest)) := by
  rw [h]; exact k
end ZLAY
theorem zvin {x n : Nat} (h : x < n) (hn : n < 2 ^ 31) : vp_in (nI x) n := vp_in_nI h hn
theorem zcl {x n : Nat} (h : x < n) (hn : n < 2 ^ 31) : (nI x).toNatClampNeg = x := nI_clamp (Nat.lt_trans h hn)
theorem zlit (n : Nat) : (OfNat.ofNat n : Int32) = nI n := rfl
theorem zneg {n : Nat} (h : n < 2 ^ 31) : ¬ nI n < 0 := nI_pos h
theorem znege {n : Nat} (h : n < 2 ^ 31) : 0 ≤ nI n := nI_pos' h
theorem zle {a b : Nat} (hb : b < 2 ^ 31) (h : a ≤ b) : nI a ≤ nI b := nI_le h hb
theorem znle {a b : Nat} (hb : b < 2 ^ 31) (h : a < b) : ¬ nI b ≤ nI a := nI_ge h hb
theorem zlt {a b : Nat} (hb : b < 2 ^ 31) (h : a < b) : nI a < nI b := nI_lt h hb
theorem znlt {a b : Nat} (ha : a < 2 ^ 31) (h : b ≤ a) : ¬ nI a < nI b := nI_nlt h ha
theorem zne {a b : Nat} (ha : a < 2 ^ 31) (hb : b < 2 ^ 31) (h : a ≠ b) : ¬ nI a = nI b := fun q => h ((nI_eq ha hb).mp q)
theorem zm1lt : ((-1) : Int32) < 0 := by decide
theorem zm1ne {a : Nat} (ha : a < 2 ^ 31) : ¬ nI a = -1 := fun q => nI_pos ha (q ▸ zm1lt)
theorem zsub {a b : Nat} (h : b ≤ a) : nI a - nI b = nI (a - b) := pk_sub h
/-- a table of rows of w numbers, with a place for mc rows: its object at t, its cells at t + 1 -/
def zT (G : zG) (N : Nat) (Λ : zLay) (t w mc : Nat) : Prop := t + 1 < N ∧ (∀ f τ, Λ t f τ = .inr (1, [.int (nI w), .int (nI mc), .ref (G.h + (t + 1)), .int (f 3)])) ∧ zIA G Λ (t + 1) (w * mc) ∧ 0 < w ∧ w ≤ 5 ∧ mc ≤ 60
theorem zT.lt {G : zG} {N : Nat} {Λ : zLay} {t w mc : Nat} (h : zT G N Λ t w mc) : t < N := Nat.lt_of_succ_lt h.1
theorem zT.lt1 {G : zG} {N : Nat} {Λ : zLay} {t w mc : Nat} (h : zT G N Λ t w mc) : t + 1 < N := h.1
theorem zT.at {G : zG} {N : Nat} {Λ : zLay} {t w mc : Nat} (h : zT G N Λ t w mc) (f : Nat → Int32) (τ : Nat → Int64) : Λ t f τ = .inr (1, [.int (nI w), .int (nI mc), .ref (G.h + (t + 1)), .int (f 3)]) := h.2.1 f τ
theorem zT.arr {G : zG} {N : Nat} {Λ : zLay} {t w mc : Nat} (h : zT G N Λ t w mc) : zIA G Λ (t + 1) (w * mc) := h.2.2.1
theorem zT.w0 {G : zG} {N : Nat} {Λ : zLay} {t w mc : Nat} (h : zT G N Λ t w mc) : 0 < w := h.2.2.2.1
theorem zT.w5 {G : zG} {N : Nat} {Λ : zLay} {t w mc : Nat} (h : zT G N Λ t w mc) : w ≤ 5 := h.2.2.2.2.1
theorem zT.mc {G : zG} {N : Nat} {Λ : zLay} {t w mc : Nat} (h : zT G N Λ t w mc) : mc ≤ 60 := h.2.2.2.2.2
/-- a machine: its object at b, its verdicts, its three tables -/
def zMa (G : zG) (N : Nat) (Λ : zLay) (b x : Nat) : Prop := b + 7 < N ∧ x < 6 ∧ (∀ f τ, Λ b f τ = .inr (0, [.int (nI x), .int (f 1), .int (f 2), .int (f 3), .int (f 4), .ref (G.h + (b + 1)), .ref (G.h + (b + 2)), .ref (G.h + (b + 4)), .ref (G.h + (b + 6))])) ∧ zIA G Λ (b + 1) 6 ∧ zT G N Λ (b + 2) 4 40 ∧ zT G N Λ (b + 4) 3 60 ∧ zT G N Λ (b + 6) 5 40
theorem zMa.lt {G : zG} {N : Nat} {Λ : zLay} {b x : Nat} (h : zMa G N Λ b x) : b < N := by have := h.1; omega
theorem zMa.lt1 {G : zG} {N : Nat} {Λ : zLay} {b x : Nat} (h : zMa G N Λ b x) : b + 1 < N := by have := h.1; omega
theorem zMa.x6 {G : zG} {N : Nat} {Λ : zLay} {b x : Nat} (h : zMa G N Λ b x) : x < 6 := h.2.1
theorem zMa.at {G : zG} {N : Nat} {Λ : zLay} {b x : Nat} (h : zMa G N Λ b x) (f : Nat → Int32) (τ : Nat → Int64) : Λ b f τ = .inr (0, [.int (nI x), .int (f 1), .int (f 2), .int (f 3), .int (f 4), .ref (G.h + (b + 1)), .ref (G.h + (b + 2)), .ref (G.h + (b + 4)), .ref (G.h + (b + 6))]) := h.2.2.1 f τ
theorem zMa.ver {G : zG} {N : Nat} {Λ : zLay} {b x : Nat} (h : zMa G N Λ b x) : zIA G Λ (b + 1) 6 := h.2.2.2.1
theorem zMa.log {G : zG} {N : Nat} {Λ : zLay} {b x : Nat} (h : zMa G N Λ b x) : zT G N Λ (b + 2) 4 40 := h.2.2.2.2.1
theorem zMa.held {G : zG} {N : Nat} {Λ : zLay} {b x : Nat} (h : zMa G N Λ b x) : zT G N Λ (b + 4) 3 60 := h.2.2.2.2.2.1
theorem zMa.pend {G : zG} {N : Nat} {Λ : zLay} {b x : Nat} (h : zMa G N Λ b x) : zT G N Λ (b + 6) 5 40 := h.2.2.2.2.2.2
/-- a world: its object at b, the array of its machines, six machines, the queue, the evidence -/
def zWo (G : zG) (N : Nat) (Λ : zLay) (b : Nat) : Prop := b + 53 < N ∧ (∀ f τ, Λ b f τ = .inr (2, [.int (f 0), .ref (G.h + (b + 1)), .ref (G.h + (b + 50)), .ref (G.h + (b + 52))])) ∧ zRA G.cM Λ (b + 1) 6 (fun k => some (G.h + (b + 2 + 8 * k))) ∧ (∀ x, x < 6 → zMa G N Λ (b + 2 + 8 * x) x) ∧ zT G N Λ (b + 50) 5 40 ∧ zT G N Λ (b + 52) 4 30
theorem zWo.lt {G : zG} {N : Nat} {Λ : zLay} {b : Nat} (h : zWo G N Λ b) : b < N := by have := h.1; omega
theorem zWo.lt1 {G : zG} {N : Nat} {Λ : zLay} {b : Nat} (h : zWo G N Λ b) : b + 1 < N := by have := h.1; omega
theorem zWo.at {G : zG} {N : Nat} {Λ : zLay} {b : Nat} (h : zWo G N Λ b) (f : Nat → Int32) (τ : Nat → Int64) : Λ b f τ = .inr (2, [.int (f 0), .ref (G.h + (b + 1)), .ref (G.h + (b + 50)), .ref (G.h + (b + 52))]) := h.2.1 f τ
theorem zWo.ma {G : zG} {N : Nat} {Λ : zLay} {b : Nat} (h : zWo G N Λ b) : zRA G.cM Λ (b + 1) 6 (fun k => some (G.h + (b + 2 + 8 * k))) := h.2.2.1
theorem zWo.m {G : zG} {N : Nat} {Λ : zLay} {b x : Nat} (h : zWo G N Λ b) (hx : x < 6) : zMa G N Λ (b + 2 + 8 * x) x := h.2.2.2.1 x hx
theorem zWo.queue {G : zG} {N : Nat} {Λ : zLay} {b : Nat} (h : zWo G N Λ b) : zT G N Λ (b + 50) 5 40 := h.2.2.2.2.1
theorem zWo.evid {G : zG} {N : Nat} {Λ : zLay} {b : Nat} (h : zWo G N Λ b) : zT G N Λ (b + 52) 4 30 := h.2.2.2.2.2
theorem zcellL {r k c w m : Nat} (hr : r < k) (hk : k ≤ m) (hc : c < w) : r * w + c < w * m := by
  have h1 : (r + 1) * w ≤ m * w := Nat.mul_le_mul_right w (by omega)
  have h2 : (r + 1) * w = r * w + w := Nat.succ_mul r w
  have h3 : m * w = w * m := Nat.mul_comm m w
  omega
theorem zcell31 {w m : Nat} (hw : w ≤ 5) (hm : m ≤ 60) : w * m < 2 ^ 31 := by
  have h1 : w * m ≤ 5 * 60 := Nat.mul_le_mul hw hm
  omega
theorem zcellN (r c w : Nat) : nI r * nI w + nI c = nI (r * w + c) := by rw [pk_mul, nI_add]
end
section
theorem zi_same {z : zM} {i j : Nat} {v : Int32} (h : z.1 i j = v) : zi z i j v = z := by
  refine Prod.ext (funext fun a => funext fun b => ?_) rfl
  rw [zi_at]
  by_cases q : a = i ∧ b = j
  · rw [if_pos q, q.1, q.2, h]
  · rw [if_neg q]
-- Table.get of a cell that is there
set_option maxRecDepth 100000 in
set_option maxHeartbeats 4000000 in
theorem m_X1_get {G : zG} {N : Nat} {Λ : zLay} {l : Launch} (hO : zOK G l) (z : zM) {t w mc : Nat} (hT : zT G N Λ t w mc) {k : Nat} (hk : z.1 t 3 = nI k) (hk2 : k ≤ mc) {r c : Nat} (hr : r < k) (hc : c < w) : zMet G N Λ l yX1_get cX1_get 3 (some .int) 0 [.ref (G.h + t), .int (nI r), .int (nI c)] z (some (.int (z.1 (t + 1) (r * w + c)))) z := by
  refine zMet_of hO (by decide) (Nat.le_of_ble_eq_true rfl) ?_
  intro pP eE sS mM bB tT cC ls C hw hl
  have hl : lv_has ls 3 [(0, .ref (G.h + t)), (1, .int (nI r)), (2, .int (nI c))] := hl
  have hm := hT.mc
  have hw5 := hT.w5
  have h31 := zcell31 hw5 hm
  refine lv_iload_n C.x C.b dX1_get_0 rfl (lv_at hl 1 rfl) ?_
  refine lv_if_lt (tgt := 24) C.x C.b dX1_get_1 (by decide) (fun c_1 => absurd c_1 (zneg (by omega))) (fun c_1 => ?_)
  refine lv_iload_n C.x C.b dX1_get_4 rfl (lv_at hl 1 rfl) ?_
  refine lv_aload_n C.x C.b dX1_get_5 rfl (lv_at hl 0 rfl) ?_
  refine z_get C hw hT.lt (hT.at _ _) flX1_22 rfl dX1_get_6 ?_
  refine lv_icmp_ge (tgt := 24) C.x C.b dX1_get_9 (by decide) (fun c_9 => absurd c_9 (by rw [hk]; exact znle (by omega) hr)) (fun c_9 => ?_)
  refine lv_iload_n C.x C.b dX1_get_12 rfl (lv_at hl 2 rfl) ?_
  refine lv_if_lt (tgt := 24) C.x C.b dX1_get_13 (by decide) (fun c_13 => absurd c_13 (zneg (by omega))) (fun c_13 => ?_)
  refine lv_iload_n C.x C.b dX1_get_16 rfl (lv_at hl 2 rfl) ?_
  refine lv_aload_n C.x C.b dX1_get_17 rfl (lv_at hl 0 rfl) ?_
  refine z_get C hw hT.lt (hT.at _ _) flX1_9 rfl dX1_get_18 ?_
  refine lv_icmp_lt (tgt := 26) C.x C.b dX1_get_21 (by decide) (fun c_21 => ?_) (fun c_21 => absurd (zlt (by omega) hc) c_21)
  refine lv_aload_n C.x C.b dX1_get_26 rfl (lv_at hl 0 rfl) ?_
  refine z_get C hw hT.lt (hT.at _ _) flX1_18 rfl dX1_get_27 ?_
  refine lv_iload_n C.x C.b dX1_get_30 rfl (lv_at hl 1 rfl) ?_
  refine lv_aload_n C.x C.b dX1_get_31 rfl (lv_at hl 0 rfl) ?_
  refine z_get C hw hT.lt (hT.at _ _) flX1_9 rfl dX1_get_32 ?_
  refine lv_imul C.x C.b dX1_get_35 ?_
  refine lv_iload_n C.x C.b dX1_get_36 rfl (lv_at hl 2 rfl) ?_
  refine z_pc (pc2 := 37) rfl ?_
  refine lv_iadd C.x C.b dX1_get_37 ?_
  refine z_topi (y := nI (r * w + c)) (zcellN r c w) ?_
  refine z_iald C hw hT.lt1 hT.arr (zvin (zcellL hr hk2 hc) h31) dX1_get_38 ?_
  exact z_iret C hw dX1_get_39 (by rw [zcl (zcellL hr hk2 hc) h31]) (rfl)

-- Table.get of a row that is not there
set_option maxRecDepth 100000 in
set_option maxHeartbeats 4000000 in
theorem m_X1_get_no {G : zG} {N : Nat} {Λ : zLay} {l : Launch} (hO : zOK G l) (z : zM) {t w mc : Nat} (hT : zT G N Λ t w mc) {k : Nat} (hk : z.1 t 3 = nI k) (hk2 : k ≤ mc) {r : Nat} {c : Int32} (hr : k ≤ r) (hr2 : r < 2 ^ 31) : zMet G N Λ l yX1_get cX1_get 3 (some .int) 0 [.ref (G.h + t), .int (nI r), .int c] z (some (.int (-1))) z := by
  refine zMet_of hO (by decide) (Nat.le_of_ble_eq_true rfl) ?_
  intro pP eE sS mM bB tT cC ls C hw hl
  have hl : lv_has ls 3 [(0, .ref (G.h + t)), (1, .int (nI r)), (2, .int c)] := hl
  have hm := hT.mc
  have hw5 := hT.w5
  have h31 := zcell31 hw5 hm
  refine lv_iload_n C.x C.b dX1_get_0 rfl (lv_at hl 1 rfl) ?_
  refine lv_if_lt (tgt := 24) C.x C.b dX1_get_1 (by decide) (fun c_1 => absurd c_1 (zneg hr2)) (fun c_1 => ?_)
  refine lv_iload_n C.x C.b dX1_get_4 rfl (lv_at hl 1 rfl) ?_
  refine lv_aload_n C.x C.b dX1_get_5 rfl (lv_at hl 0 rfl) ?_
  refine z_get C hw hT.lt (hT.at _ _) flX1_22 rfl dX1_get_6 ?_
  refine lv_icmp_ge (tgt := 24) C.x C.b dX1_get_9 (by decide) (fun c_9 => ?_) (fun c_9 => absurd (by rw [hk]; exact zle hr2 hr) c_9)
  refine lv_iconst (v := -1) C.x C.b dX1_get_24 (by decide) ?_
  exact z_iret C hw dX1_get_25 (rfl) (rfl)

-- Table.set of a cell that is there
set_option maxRecDepth 100000 in
set_option maxHeartbeats 4000000 in
theorem m_X1_set {G : zG} {N : Nat} {Λ : zLay} {l : Launch} (hO : zOK G l) (z : zM) {t w mc : Nat} (hT : zT G N Λ t w mc) {k : Nat} (hk : z.1 t 3 = nI k) (hk2 : k ≤ mc) {r c : Nat} {v : Int32} (hr : r < k) (hc : c < w) : zMet G N Λ l yX1_set cX1_set 4 none 0 [.ref (G.h + t), .int (nI r), .int (nI c), .int v] z none (zi z (t + 1) (r * w + c) v) := by
  refine zMet_of hO (by decide) (Nat.le_of_ble_eq_true rfl) ?_
  intro pP eE sS mM bB tT cC ls C hw hl
  have hl : lv_has ls 4 [(0, .ref (G.h + t)), (1, .int (nI r)), (2, .int (nI c)), (3, .int v)] := hl
  have hm := hT.mc
  have hw5 := hT.w5
  have h31 := zcell31 hw5 hm
  refine lv_iload_n C.x C.b dX1_set_0 rfl (lv_at hl 1 rfl) ?_
  refine lv_if_lt (tgt := 38) C.x C.b dX1_set_1 (by decide) (fun c_1 => absurd c_1 (zneg (by omega))) (fun c_1 => ?_)
  refine lv_iload_n C.x C.b dX1_set_4 rfl (lv_at hl 1 rfl) ?_
  refine lv_aload_n C.x C.b dX1_set_5 rfl (lv_at hl 0 rfl) ?_
  refine z_get C hw hT.lt (hT.at _ _) flX1_22 rfl dX1_set_6 ?_
  refine lv_icmp_ge (tgt := 38) C.x C.b dX1_set_9 (by decide) (fun c_9 => absurd c_9 (by rw [hk]; exact znle (by omega) hr)) (fun c_9 => ?_)
  refine lv_iload_n C.x C.b dX1_set_12 rfl (lv_at hl 2 rfl) ?_
  refine lv_if_lt (tgt := 38) C.x C.b dX1_set_13 (by decide) (fun c_13 => absurd c_13 (zneg (by omega))) (fun c_13 => ?_)
  refine lv_iload_n C.x C.b dX1_set_16 rfl (lv_at hl 2 rfl) ?_
  refine lv_aload_n C.x C.b dX1_set_17 rfl (lv_at hl 0 rfl) ?_
  refine z_get C hw hT.lt (hT.at _ _) flX1_9 rfl dX1_set_18 ?_
  refine lv_icmp_ge (tgt := 38) C.x C.b dX1_set_21 (by decide) (fun c_21 => absurd c_21 (znle (by omega) hc)) (fun c_21 => ?_)
  refine lv_aload_n C.x C.b dX1_set_24 rfl (lv_at hl 0 rfl) ?_
  refine z_get C hw hT.lt (hT.at _ _) flX1_18 rfl dX1_set_25 ?_
  refine lv_iload_n C.x C.b dX1_set_28 rfl (lv_at hl 1 rfl) ?_
  refine lv_aload_n C.x C.b dX1_set_29 rfl (lv_at hl 0 rfl) ?_
  refine z_get C hw hT.lt (hT.at _ _) flX1_9 rfl dX1_set_30 ?_
  refine lv_imul C.x C.b dX1_set_33 ?_
  refine lv_iload_n C.x C.b dX1_set_34 rfl (lv_at hl 2 rfl) ?_
  refine z_pc (pc2 := 35) rfl ?_
  refine lv_iadd C.x C.b dX1_set_35 ?_
  refine z_topi (y := nI (r * w + c)) (zcellN r c w) ?_
  refine lv_iload_n C.x C.b dX1_set_36 rfl (lv_at hl 3 rfl) ?_
  refine z_iast C hw hT.lt1 hT.arr (zvin (zcellL hr hk2 hc) h31) dX1_set_37 (fun H locs hw => ?_)
  obtain ⟨z_1, ez_1⟩ : ∃ q_9, q_9 = zi z (t + 1) (nI (r * w + c)).toNatClampNeg v := ⟨_, rfl⟩
  have hw : zS G N Λ z_1 sS H locs := by rw [ez_1]; exact hw
  exact z_vret C hw dX1_set_38 (rfl) (by rw [ez_1, zcl (zcellL hr hk2 hc) h31])

-- Table.set of row -1
set_option maxRecDepth 100000 in
set_option maxHeartbeats 4000000 in
theorem m_X1_set_no {G : zG} {N : Nat} {Λ : zLay} {l : Launch} (hO : zOK G l) (z : zM) {t w mc : Nat} (hT : zT G N Λ t w mc) {c v : Int32} : zMet G N Λ l yX1_set cX1_set 4 none 0 [.ref (G.h + t), .int (-1), .int c, .int v] z none z := by
  refine zMet_of hO (by decide) (Nat.le_of_ble_eq_true rfl) ?_
  intro pP eE sS mM bB tT cC ls C hw hl
  have hl : lv_has ls 4 [(0, .ref (G.h + t)), (1, .int (-1)), (2, .int c), (3, .int v)] := hl
  refine lv_iload_n C.x C.b dX1_set_0 rfl (lv_at hl 1 rfl) ?_
  refine lv_if_lt (tgt := 38) C.x C.b dX1_set_1 (by decide) (fun c_1 => ?_) (fun c_1 => absurd (zm1lt) c_1)
  exact z_vret C hw dX1_set_38 (rfl) (rfl)

-- Table.addRow with a place left
set_option maxRecDepth 100000 in
set_option maxHeartbeats 4000000 in
theorem m_X1_addRow {G : zG} {N : Nat} {Λ : zLay} {l : Launch} (hO : zOK G l) (z : zM) {t w mc : Nat} (hT : zT G N Λ t w mc) {k : Nat} (hk : z.1 t 3 = nI k) (hk2 : k ≤ mc) (hlt : k < mc) : zMet G N Λ l yX1_addRow cX1_addRow 1 (some .int) 0 [.ref (G.h + t)] z (some (.int (nI k))) (zi z t 3 (nI (k + 1))) := by
  refine zMet_of hO (by decide) (Nat.le_of_ble_eq_true rfl) ?_
  intro pP eE sS mM bB tT cC ls C hw hl
  have hl : lv_has ls 1 [(0, .ref (G.h + t))] := hl
  have hm := hT.mc
  have hw5 := hT.w5
  have h31 := zcell31 hw5 hm
  refine lv_aload_n C.x C.b dX1_addRow_0 rfl (lv_at hl 0 rfl) ?_
  refine z_get C hw hT.lt (hT.at _ _) flX1_22 rfl dX1_addRow_1 ?_
  refine lv_aload_n C.x C.b dX1_addRow_4 rfl (lv_at hl 0 rfl) ?_
  refine z_get C hw hT.lt (hT.at _ _) flX1_15 rfl dX1_addRow_5 ?_
  refine lv_icmp_lt (tgt := 13) C.x C.b dX1_addRow_8 (by decide) (fun c_8 => ?_) (fun c_8 => absurd (by rw [hk]; exact zlt (by omega) hlt) c_8)
  refine lv_aload_n C.x C.b dX1_addRow_13 rfl (lv_at hl 0 rfl) ?_
  refine lv_dup C.x C.b dX1_addRow_14 rfl ?_
  refine z_get C hw hT.lt (hT.at _ _) flX1_22 rfl dX1_addRow_15 ?_
  refine lv_iconst (v := 1) C.x C.b dX1_addRow_18 (by decide) ?_
  refine lv_iadd C.x C.b dX1_addRow_19 ?_
  refine z_topi (y := nI (k + 1)) (by rw [hk]; exact nI_1 k) ?_
  refine z_put C hw hT.lt (hT.at _ _) ptX1_22 (hT.at _ _) (rfl) (rfl) (Nat.le_of_ble_eq_true rfl) dX1_addRow_20 (fun H locs hw => ?_)
  obtain ⟨z_1, ez_1⟩ : ∃ q_9, q_9 = zi z t 3 (nI (k + 1)) := ⟨_, rfl⟩
  have hw : zS G N Λ z_1 sS H locs := by rw [ez_1]; exact hw
  refine lv_aload_n C.x C.b dX1_addRow_23 rfl (lv_at hl 0 rfl) ?_
  refine z_get C hw hT.lt (hT.at _ _) flX1_22 rfl dX1_addRow_24 ?_
  refine lv_iconst (v := 1) C.x C.b dX1_addRow_27 (by decide) ?_
  refine lv_isub C.x C.b dX1_addRow_28 ?_
  refine z_topi (y := nI k) (by rw [ez_1, zi_at, if_pos ⟨rfl, rfl⟩]; exact nI_pred k) ?_
  exact z_iret C hw dX1_addRow_29 (rfl) (ez_1.symm)

-- Table.addRow of a full table
set_option maxRecDepth 100000 in
set_option maxHeartbeats 4000000 in
theorem m_X1_addRow_no {G : zG} {N : Nat} {Λ : zLay} {l : Launch} (hO : zOK G l) (z : zM) {t w mc : Nat} (hT : zT G N Λ t w mc) (hk : z.1 t 3 = nI mc) : zMet G N Λ l yX1_addRow cX1_addRow 1 (some .int) 0 [.ref (G.h + t)] z (some (.int (-1))) z := by
  refine zMet_of hO (by decide) (Nat.le_of_ble_eq_true rfl) ?_
  intro pP eE sS mM bB tT cC ls C hw hl
  have hl : lv_has ls 1 [(0, .ref (G.h + t))] := hl
  have hm := hT.mc
  refine lv_aload_n C.x C.b dX1_addRow_0 rfl (lv_at hl 0 rfl) ?_
  refine z_get C hw hT.lt (hT.at _ _) flX1_22 rfl dX1_addRow_1 ?_
  refine lv_aload_n C.x C.b dX1_addRow_4 rfl (lv_at hl 0 rfl) ?_
  refine z_get C hw hT.lt (hT.at _ _) flX1_15 rfl dX1_addRow_5 ?_
  refine lv_icmp_lt (tgt := 13) C.x C.b dX1_addRow_8 (by decide) (fun c_8 => absurd c_8 (by rw [hk]; exact znlt (by omega) (Nat.le_refl _))) (fun c_8 => ?_)
  refine lv_iconst (v := -1) C.x C.b dX1_addRow_11 (by decide) ?_
  exact z_iret C hw dX1_addRow_12 (rfl) (rfl)

-- Table.keepFirst(0)
set_option maxRecDepth 100000 in
set_option maxHeartbeats 4000000 in
theorem m_X1_keep0 {G : zG} {N : Nat} {Λ : zLay} {l : Launch} (hO : zOK G l) (z : zM) {t w mc : Nat} (hT : zT G N Λ t w mc) {k : Nat} (hk : z.1 t 3 = nI k) (hk2 : k ≤ mc) : zMet G N Λ l yX1_keepFirst cX1_keepFirst 2 none 0 [.ref (G.h + t), .int 0] z none (zi z t 3 0) := by
  refine zMet_of hO (by decide) (Nat.le_of_ble_eq_true rfl) ?_
  intro pP eE sS mM bB tT cC ls C hw hl
  have hl : lv_has ls 2 [(0, .ref (G.h + t)), (1, .int 0)] := hl
  have hm := hT.mc
  have hw5 := hT.w5
  have h31 := zcell31 hw5 hm
  refine lv_iload_n C.x C.b dX1_keepFirst_0 rfl (lv_at hl 1 rfl) ?_
  refine lv_if_lt (tgt := 17) C.x C.b dX1_keepFirst_1 (by decide) (fun c_1 => absurd c_1 (by decide)) (fun c_1 => ?_)
  refine lv_iload_n C.x C.b dX1_keepFirst_4 rfl (lv_at hl 1 rfl) ?_
  refine lv_aload_n C.x C.b dX1_keepFirst_5 rfl (lv_at hl 0 rfl) ?_
  refine z_get C hw hT.lt (hT.at _ _) flX1_22 rfl dX1_keepFirst_6 ?_
  refine lv_icmp_ge (tgt := 17) C.x C.b dX1_keepFirst_9 (by decide) (fun c_9 => ?_) (fun c_9 => ?_)
  · exact z_vret C hw dX1_keepFirst_17 (rfl) (by
        have h0 : k = 0 := Nat.eq_zero_of_not_pos (fun q => znle (by omega) q (hk ▸ c_9))
        subst h0
        exact zi_same (by rw [hk]; rfl))
  · refine lv_aload_n C.x C.b dX1_keepFirst_12 rfl (lv_at hl 0 rfl) ?_
    refine lv_iload_n C.x C.b dX1_keepFirst_13 rfl (lv_at hl 1 rfl) ?_
    refine z_put C hw hT.lt (hT.at _ _) ptX1_22 (hT.at _ _) (rfl) (rfl) (Nat.le_of_ble_eq_true rfl) dX1_keepFirst_14 (fun H locs hw => ?_)
    obtain ⟨z_1, ez_1⟩ : ∃ q_9, q_9 = zi z t 3 0 := ⟨_, rfl⟩
    have hw : zS G N Λ z_1 sS H locs := by rw [ez_1]; exact hw
    exact z_vret C hw dX1_keepFirst_17 (rfl) (ez_1.symm)

-- Table.keepFirst(r), r less than count
set_option maxRecDepth 100000 in
set_option maxHeartbeats 4000000 in
theorem m_X1_keep {G : zG} {N : Nat} {Λ : zLay} {l : Launch} (hO : zOK G l) (z : zM) {t w mc : Nat} (hT : zT G N Λ t w mc) {k : Nat} (hk : z.1 t 3 = nI k) (hk2 : k ≤ mc) {r : Nat} (hr : r < k) : zMet G N Λ l yX1_keepFirst cX1_keepFirst 2 none 0 [.ref (G.h + t), .int (nI r)] z none (zi z t 3 (nI r)) := by
  refine zMet_of hO (by decide) (Nat.le_of_ble_eq_true rfl) ?_
  intro pP eE sS mM bB tT cC ls C hw hl
  have hl : lv_has ls 2 [(0, .ref (G.h + t)), (1, .int (nI r))] := hl
  have hm := hT.mc
  have hw5 := hT.w5
  have h31 := zcell31 hw5 hm
  refine lv_iload_n C.x C.b dX1_keepFirst_0 rfl (lv_at hl 1 rfl) ?_
  refine lv_if_lt (tgt := 17) C.x C.b dX1_keepFirst_1 (by decide) (fun c_1 => absurd c_1 (zneg (by omega))) (fun c_1 => ?_)
  refine lv_iload_n C.x C.b dX1_keepFirst_4 rfl (lv_at hl 1 rfl) ?_
  refine lv_aload_n C.x C.b dX1_keepFirst_5 rfl (lv_at hl 0 rfl) ?_
  refine z_get C hw hT.lt (hT.at _ _) flX1_22 rfl dX1_keepFirst_6 ?_
  refine lv_icmp_ge (tgt := 17) C.x C.b dX1_keepFirst_9 (by decide) (fun c_9 => absurd c_9 (by rw [hk]; exact znle (by omega) hr)) (fun c_9 => ?_)
  refine lv_aload_n C.x C.b dX1_keepFirst_12 rfl (lv_at hl 0 rfl) ?_
  refine lv_iload_n C.x C.b dX1_keepFirst_13 rfl (lv_at hl 1 rfl) ?_
  refine z_put C hw hT.lt (hT.at _ _) ptX1_22 (hT.at _ _) (rfl) (rfl) (Nat.le_of_ble_eq_true rfl) dX1_keepFirst_14 (fun H locs hw => ?_)
  obtain ⟨z_1, ez_1⟩ : ∃ q_9, q_9 = zi z t 3 (nI r) := ⟨_, rfl⟩
  have hw : zS G N Λ z_1 sS H locs := by rw [ez_1]; exact hw
  exact z_vret C hw dX1_keepFirst_17 (rfl) (ez_1.symm)

-- Table.removeFirst
set_option maxRecDepth 100000 in
set_option maxHeartbeats 4000000 in
theorem m_X1_removeFirst {G : zG} {N : Nat} {Λ : zLay} {l : Launch} (hO : zOK G l) (z : zM) {t w mc : Nat} (hT : zT G N Λ t w mc) {k : Nat} (hk : z.1 t 3 = nI k) (hk2 : k ≤ mc) (h0 : 0 < k) : zMet G N Λ l yX1_removeFirst cX1_removeFirst 1 none 1 [.ref (G.h + t)] z none (zr (zi z t 3 (nI (k - 1))) (t + 1) (va_cpy (z.1 (t + 1)) (z.1 (t + 1)) w 0 ((k - 1) * w))) := by
  refine zMet_of hO (by decide) (Nat.le_of_ble_eq_true rfl) ?_
  intro pP eE sS mM bB tT cC ls C hw hl
  have hl : lv_has ls 1 [(0, .ref (G.h + t))] := hl
  have hm := hT.mc
  have hw5 := hT.w5
  have h31 := zcell31 hw5 hm
  have hkw : (k - 1) * w + w ≤ w * mc := by
    have h1 : (k - 1 + 1) * w ≤ mc * w := Nat.mul_le_mul_right w (by omega)
    rw [Nat.succ_mul] at h1; rw [Nat.mul_comm w mc]; exact h1
  refine lv_aload_n C.x C.b dX1_removeFirst_0 rfl (lv_at hl 0 rfl) ?_
  refine z_get C hw hT.lt (hT.at _ _) flX1_22 rfl dX1_removeFirst_1 ?_
  refine lv_if_le (tgt := 42) C.x C.b dX1_removeFirst_4 (by decide) (fun c_4 => absurd c_4 (by rw [hk]; exact nI_nle h0 (by omega))) (fun c_4 => ?_)
  refine lv_aload_n C.x C.b dX1_removeFirst_7 rfl (lv_at hl 0 rfl) ?_
  refine lv_dup C.x C.b dX1_removeFirst_8 rfl ?_
  refine z_get C hw hT.lt (hT.at _ _) flX1_22 rfl dX1_removeFirst_9 ?_
  refine lv_iconst (v := 1) C.x C.b dX1_removeFirst_12 (by decide) ?_
  refine lv_isub C.x C.b dX1_removeFirst_13 ?_
  refine z_topi (y := nI (k - 1)) (by rw [hk, zlit, zsub h0]) ?_
  refine z_put C hw hT.lt (hT.at _ _) ptX1_22 (hT.at _ _) (rfl) (rfl) (Nat.le_of_ble_eq_true rfl) dX1_removeFirst_14 (fun H locs hw => ?_)
  obtain ⟨z_1, ez_1⟩ : ∃ q_9, q_9 = zi z t 3 (nI (k - 1)) := ⟨_, rfl⟩
  have hw : zS G N Λ z_1 sS H locs := by rw [ez_1]; exact hw
  refine lv_aload_n C.x C.b dX1_removeFirst_17 rfl (lv_at hl 0 rfl) ?_
  refine z_get C hw hT.lt (hT.at _ _) flX1_18 rfl dX1_removeFirst_18 ?_
  refine lv_aload_n C.x C.b dX1_removeFirst_21 rfl (lv_at hl 0 rfl) ?_
  refine z_get C hw hT.lt (hT.at _ _) flX1_9 rfl dX1_removeFirst_22 ?_
  refine lv_aload_n C.x C.b dX1_removeFirst_25 rfl (lv_at hl 0 rfl) ?_
  refine z_get C hw hT.lt (hT.at _ _) flX1_18 rfl dX1_removeFirst_26 ?_
  refine lv_iconst (v := 0) C.x C.b dX1_removeFirst_29 (by decide) ?_
  refine lv_aload_n C.x C.b dX1_removeFirst_30 rfl (lv_at hl 0 rfl) ?_
  refine z_get C hw hT.lt (hT.at _ _) flX1_22 rfl dX1_removeFirst_31 ?_
  refine lv_aload_n C.x C.b dX1_removeFirst_34 rfl (lv_at hl 0 rfl) ?_
  refine z_pc (pc2 := 35) rfl ?_
  refine z_get C hw hT.lt (hT.at _ _) flX1_9 rfl dX1_removeFirst_35 ?_
  have hz1 : z_1.1 t 3 = nI (k - 1) := by rw [ez_1, zi_at, if_pos ⟨rfl, rfl⟩]
  refine lv_imul C.x C.b dX1_removeFirst_38 ?_
  refine z_topi (y := nI ((k - 1) * w)) (by rw [hz1, pk_mul]) ?_
  refine z_copy C hw hl hT.lt1 hT.arr hT.lt1 hT.arr cpX1_37 (zneg (by omega)) (by decide) (zneg (by omega)) (by rw [zcl (n := 6) (by omega) (by omega), nI_clamp (by omega)]; omega) (by rw [nI_clamp (by omega)]; show 0 + _ ≤ _; omega) (by decide) (by decide) dX1_removeFirst_39 (fun H locs hw => ?_)
  obtain ⟨z_2, ez_2⟩ : ∃ q_9, q_9 = zr z_1 (t + 1) (va_cpy (z_1.1 (t + 1)) (z_1.1 (t + 1)) (nI w).toNatClampNeg (0 : Int32).toNatClampNeg (nI ((k - 1) * w)).toNatClampNeg) := ⟨_, rfl⟩
  have hw : zS G N Λ z_2 sS H locs := by rw [ez_2]; exact hw
  exact z_vret C hw dX1_removeFirst_42 (rfl) (by
      have h9 : z_1.1 (t + 1) = z.1 (t + 1) := by rw [ez_1]; exact zr_n _ _ (by omega)
      rw [ez_2, h9, ez_1, nI_clamp (by omega), nI_clamp (by omega)]; rfl)

-- Table.copyRows
set_option maxRecDepth 100000 in
set_option maxHeartbeats 4000000 in
theorem m_X1_copyRows {G : zG} {N : Nat} {Λ : zLay} {l : Launch} (hO : zOK G l) (z : zM) {t o w mc : Nat} (hT : zT G N Λ t w mc) (hT2 : zT G N Λ o w mc) {k : Nat} (hk : z.1 o 3 = nI k) (hk2 : k ≤ mc) : zMet G N Λ l yX1_copyRows cX1_copyRows 2 none 1 [.ref (G.h + t), .ref (G.h + o)] z none (zr (zi z t 3 (nI k)) (t + 1) (va_cpy ((zi z t 3 (nI k)).1 (o + 1)) (z.1 (t + 1)) 0 0 (k * w))) := by
  refine zMet_of hO (by decide) (Nat.le_of_ble_eq_true rfl) ?_
  intro pP eE sS mM bB tT cC ls C hw hl
  have hl : lv_has ls 2 [(0, .ref (G.h + t)), (1, .ref (G.h + o))] := hl
  have hm := hT.mc
  have hw5 := hT.w5
  have h31 := zcell31 hw5 hm
  have hkw : k * w ≤ w * mc := by
    rw [Nat.mul_comm w mc]; exact Nat.mul_le_mul_right w hk2
  refine lv_aload_n C.x C.b dX1_copyRows_0 rfl (lv_at hl 0 rfl) ?_
  refine lv_aload_n C.x C.b dX1_copyRows_1 rfl (lv_at hl 1 rfl) ?_
  refine z_get C hw hT2.lt (hT2.at _ _) flX1_22 rfl dX1_copyRows_2 ?_
  refine z_topi (y := nI k) (hk) ?_
  refine z_put C hw hT.lt (hT.at _ _) ptX1_22 (hT.at _ _) (rfl) (rfl) (Nat.le_of_ble_eq_true rfl) dX1_copyRows_5 (fun H locs hw => ?_)
  obtain ⟨z_1, ez_1⟩ : ∃ q_9, q_9 = zi z t 3 (nI k) := ⟨_, rfl⟩
  have hw : zS G N Λ z_1 sS H locs := by rw [ez_1]; exact hw
  refine lv_aload_n C.x C.b dX1_copyRows_8 rfl (lv_at hl 1 rfl) ?_
  refine z_get C hw hT2.lt (hT2.at _ _) flX1_18 rfl dX1_copyRows_9 ?_
  refine lv_iconst (v := 0) C.x C.b dX1_copyRows_12 (by decide) ?_
  refine lv_aload_n C.x C.b dX1_copyRows_13 rfl (lv_at hl 0 rfl) ?_
  refine z_get C hw hT.lt (hT.at _ _) flX1_18 rfl dX1_copyRows_14 ?_
  refine lv_iconst (v := 0) C.x C.b dX1_copyRows_17 (by decide) ?_
  refine lv_aload_n C.x C.b dX1_copyRows_18 rfl (lv_at hl 0 rfl) ?_
  refine z_get C hw hT.lt (hT.at _ _) flX1_22 rfl dX1_copyRows_19 ?_
  refine lv_aload_n C.x C.b dX1_copyRows_22 rfl (lv_at hl 0 rfl) ?_
  refine z_get C hw hT.lt (hT.at _ _) flX1_9 rfl dX1_copyRows_23 ?_
  have hz1 : z_1.1 t 3 = nI k := by rw [ez_1, zi_at, if_pos ⟨rfl, rfl⟩]
  refine lv_imul C.x C.b dX1_copyRows_26 ?_
  refine z_topi (y := nI (k * w)) (by rw [hz1, pk_mul]) ?_
  refine z_copy C hw hl hT2.lt1 hT2.arr hT.lt1 hT.arr cpX1_37 (by decide) (by decide) (zneg (by omega)) (by rw [nI_clamp (by omega)]; show 0 + _ ≤ _; omega) (by rw [nI_clamp (by omega)]; show 0 + _ ≤ _; omega) (by decide) (by decide) dX1_copyRows_27 (fun H locs hw => ?_)
  obtain ⟨z_2, ez_2⟩ : ∃ q_9, q_9 = zr z_1 (t + 1) (va_cpy (z_1.1 (o + 1)) (z_1.1 (t + 1)) (0 : Int32).toNatClampNeg (0 : Int32).toNatClampNeg (nI (k * w)).toNatClampNeg) := ⟨_, rfl⟩
  have hw : zS G N Λ z_2 sS H locs := by rw [ez_2]; exact hw
  exact z_vret C hw dX1_copyRows_30 (rfl) (by
      have h9 : z_1.1 (t + 1) = z.1 (t + 1) := by rw [ez_1]; exact zr_n _ _ (by omega)
      rw [ez_2, h9, ez_1, nI_clamp (by omega)]; rfl)
end
section
/-! ===== numbers ===== -/
def pI (q : Nat) : Int32 := nI q - 1
theorem pI_1 (q : Nat) : pI q + 1 = nI q := by unfold pI; exact Int32.sub_add_cancel _ _
theorem pI_s (x : Nat) : pI (x + 1) = nI x := nI_pred x
theorem pI_0 : pI 0 = -1 := by decide
theorem pI_2 (q : Nat) : pI q + 2 = nI (q + 1) := by
  have h : pI q + 2 = (pI q + 1) + 1 := by rw [Int32.add_assoc]; rfl
  rw [h, pI_1, nI_1]
theorem zlitL (n : Nat) : (OfNat.ofNat n : Int64) = lN n := rfl
theorem zrem {a : Nat} (d : Nat) (ha : a < 2 ^ 31) (h0 : 0 < d) (hd : d < 2 ^ 31) : nI a - nI a / nI d * nI d = nI (a % d) := pk_rem ha h0 hd
/-- the state behind a value v from the peer q - 1 -/
def nx (m v q : Nat) : Nat := (31 * m + 17 * v + q + 1) % 9973
theorem nx_lt (m v q : Nat) : nx m v q < 9973 := Nat.mod_lt _ (by decide)
theorem nx_i (m v q : Nat) : 31 * nI m + 17 * nI v + pI q + 2 = nI (31 * m + 17 * v + q + 1) := by
  rw [Int32.add_assoc (31 * nI m + 17 * nI v), pI_2, zlit 31, zlit 17, pk_mul, pk_mul, nI_add, nI_add]
  rfl
/-- the chain's next number -/
def nc (h a q v : Nat) : Nat := (h * 1000003 + 7 * a + 31 * q + 257 * v) % 2147483647
theorem nc_lt (h a q v : Nat) : nc h a q v < 2147483647 := Nat.mod_lt _ (by decide)
theorem nc_sum {h a q v : Nat} (hh : h < 2147483647) (ha : a ≤ 2) (hq : q ≤ 6) (hv : v < 1000) : (nI h).toInt64 * 1000003 + (7 * nI a).toInt64 + (31 * (pI q + 1)).toInt64 + (257 * nI v).toInt64 = lN (h * 1000003 + 7 * a + 31 * q + 257 * v) := by
  rw [pI_1, zlit 7, zlit 31, zlit 257, pk_mul, pk_mul, pk_mul, nI_l (by omega), nI_l (by omega), nI_l (by omega), nI_l (by omega), zlitL 1000003, lN_mul, lN_add, lN_add, lN_add]
/-- to whom a machine sends -/
def gt (x m n : Nat) : Nat := (x + 1 + m % (n - 1)) % n
theorem gt_lt {x m n : Nat} (h : 2 ≤ n) : gt x m n < n := Nat.mod_lt _ (by omega)
theorem gt_lo {x m n : Nat} (h : x + 1 + m % (n - 1) < n) : gt x m n = x + 1 + m % (n - 1) := Nat.mod_eq_of_lt h
theorem gt_hi {x m n : Nat} (hn : 2 ≤ n) (hx : x < n) (h : ¬ x + 1 + m % (n - 1) < n) : gt x m n = x + 1 + m % (n - 1) - n := by
  have h1 : m % (n - 1) < n - 1 := Nat.mod_lt _ (by omega)
  unfold gt
  rw [Nat.mod_eq_sub_mod (by omega), Nat.mod_eq_of_lt (by omega)]
def othI (x n : Nat) : Int32 := ((1 : Int32) <<< (nI n &&& 31) - 1) &&& ((1 : Int32) <<< (nI x &&& 31) ^^^ (-1))
def hasO (m : Nat) : Int32 := if m % 3 = 0 then 1 else 0
end
section
/-! plain facts on numbers and arrays, to paste: each family by itself; over the kit's rows on nI and upd -/
/-! ===== order of ints, in all its forms, and through longs ===== -/
theorem fa_lt (a b : Int32) : a < b ↔ a.toInt < b.toInt := Int32.lt_iff_toInt_lt
theorem fa_le (a b : Int32) : a ≤ b ↔ a.toInt ≤ b.toInt := Int32.le_iff_toInt_le
theorem fa_eq (a b : Int32) : a = b ↔ a.toInt = b.toInt := Int32.toInt_inj.symm
theorem fa_lt64 (a b : Int64) : a < b ↔ a.toInt < b.toInt := Int64.lt_iff_toInt_lt
theorem fa_le64 (a b : Int64) : a ≤ b ↔ a.toInt ≤ b.toInt := Int64.le_iff_toInt_le
theorem fa_eq64 (a b : Int64) : a = b ↔ a.toInt = b.toInt := Int64.toInt_inj.symm
/-- a comparison of two ints taken as longs -/
theorem fa_wide_lt (a b : Int32) : a.toInt64 < b.toInt64 ↔ a < b := by rw [fa_lt64, fa_lt, Int32.toInt_toInt64, Int32.toInt_toInt64]
theorem fa_wide_le (a b : Int32) : a.toInt64 ≤ b.toInt64 ↔ a ≤ b := by rw [fa_le64, fa_le, Int32.toInt_toInt64, Int32.toInt_toInt64]
theorem fa_wide_eq (a b : Int32) : a.toInt64 = b.toInt64 ↔ a = b := by rw [fa_eq64, fa_eq, Int32.toInt_toInt64, Int32.toInt_toInt64]
/-- one strict comparison gives all the others -/
theorem fa_of_lt {a b : Int32} (h : a < b) : a ≤ b ∧ ¬ b ≤ a ∧ ¬ b < a ∧ a ≠ b ∧ b ≠ a := by
  rw [fa_lt] at h
  refine ⟨?_, ?_, ?_, ?_, ?_⟩
  · rw [fa_le]; omega
  · rw [fa_le]; omega
  · rw [fa_lt]; omega
  · intro e; rw [fa_eq] at e; omega
  · intro e; rw [fa_eq] at e; omega
theorem fa_of_nlt {a b : Int32} (h : ¬ a < b) : b ≤ a := by
  rw [fa_lt] at h
  rw [fa_le]
  omega
theorem fa_of_nle {a b : Int32} (h : ¬ a ≤ b) : b < a := by
  rw [fa_le] at h
  rw [fa_lt]
  omega
theorem fa_le_ne {a b : Int32} (h : a ≤ b) (h2 : a ≠ b) : a < b := by
  rw [fa_le] at h
  rw [fa_lt]
  have h3 : a.toInt ≠ b.toInt := fun e => h2 ((fa_eq a b).mpr e)
  omega
theorem fa_three (a b : Int32) : a < b ∨ a = b ∨ b < a := by
  rw [fa_lt, fa_lt, fa_eq]
  omega
theorem fa_trans {a b c : Int32} (h : a < b) (h2 : b ≤ c) : a < c := by
  rw [fa_lt] at *
  rw [fa_le] at h2
  omega
/-! ===== small literals as numbers ===== -/
theorem fa_lit (n : Nat) : (OfNat.ofNat n : Int32) = nI n := rfl
theorem fa_litL (n : Nat) : (OfNat.ofNat n : Int64) = lN n := rfl
/-! ===== bits of a number: 'or', masks, one bit ===== -/
theorem fa_and (a b : Nat) : nI a &&& nI b = nI (a &&& b) := by
  apply Int32.toBitVec_inj.1
  show BitVec.ofNat 32 a &&& BitVec.ofNat 32 b = BitVec.ofNat 32 (a &&& b)
  apply BitVec.eq_of_getLsbD_eq
  intro i hi
  simp [hi]
theorem fa_or (a b : Nat) : nI a ||| nI b = nI (a ||| b) := by
  apply Int32.toBitVec_inj.1
  show BitVec.ofNat 32 a ||| BitVec.ofNat 32 b = BitVec.ofNat 32 (a ||| b)
  apply BitVec.eq_of_getLsbD_eq
  intro i hi
  simp [hi]
/-- a remainder by a power of two, as a mask -/
theorem fa_mask (n k : Nat) : nI n &&& nI (2 ^ k - 1) = nI (n % 2 ^ k) := by rw [fa_and, Nat.and_two_pow_sub_one_eq_mod]
/-- 'or' of a high part and a low one that don't meet is their sum -/
theorem fa_or_sum {a k : Nat} (b : Nat) (h : a < 2 ^ k) : nI (2 ^ k * b) ||| nI a = nI (2 ^ k * b + a) := by rw [fa_or, Nat.two_pow_add_eq_or_of_lt h]
/-- one bit, by 'and' with a power of two -/
theorem fa_bit {n j : Nat} (hj : j < 31) : nI n &&& nI (2 ^ j) = 0 ↔ n.testBit j = false := by
  have h2 : (2 : Nat) ^ j < 2 ^ 31 := Nat.pow_lt_pow_right (by decide) hj
  have hle : n &&& 2 ^ j ≤ 2 ^ j := Nat.and_le_right
  have e : n &&& 2 ^ j = 0 ↔ n.testBit j = false := by
    constructor
    · intro h
      have h1 : (n &&& 2 ^ j).testBit j = false := by rw [h]; simp
      rw [Nat.testBit_and] at h1
      first | simpa using h1 | simpa [Nat.testBit_two_pow_self] using h1 | simpa [Nat.testBit_two_pow] using h1
    · intro h
      apply Nat.eq_of_testBit_eq
      intro i
      rw [Nat.testBit_and]
      by_cases hi : j = i
      · subst hi; simp [h]
      · first | (simp [Nat.testBit_two_pow, hi]; done) | (simp [Nat.testBit_two_pow_of_ne hi]; done)
  rw [fa_and]
  constructor
  · intro h
    apply e.mp
    rcases Nat.eq_zero_or_pos (n &&& 2 ^ j) with z | z
    · exact z
    · exact absurd h (nI_ne0 z (Nat.lt_of_le_of_lt hle h2))
  · intro h
    rw [e.mpr h]; exact nI_0
/-- a remainder by a power of two of a number that isn't negative, as Java divides -/
theorem fa_rem {a k : Nat} (ha : a < 2 ^ 31) (hk : k < 31) : nI a - nI a / nI (2 ^ k) * nI (2 ^ k) = nI (a % 2 ^ k) := pk_rem ha (Nat.two_pow_pos k) (Nat.pow_lt_pow_right (by decide) hk)
/-! ===== cuts to a byte, a short ===== -/
theorem fa_byte_xor (x y : Int32) : (x ^^^ y).toInt8 = x.toInt8 ^^^ y.toInt8 := by
  apply Int8.toBitVec_inj.1
  apply BitVec.eq_of_getLsbD_eq
  intro i hi
  first | (simp [hi]; done) | (simp [hi, BitVec.getLsbD_setWidth, BitVec.getLsbD_signExtend]; done)
theorem fa_short_xor (x y : Int32) : (x ^^^ y).toInt16 = x.toInt16 ^^^ y.toInt16 := by
  apply Int16.toBitVec_inj.1
  apply BitVec.eq_of_getLsbD_eq
  intro i hi
  first | (simp [hi]; done) | (simp [hi, BitVec.getLsbD_setWidth, BitVec.getLsbD_signExtend]; done)
/-- the cut to a byte sees the low byte alone -/
theorem fa_byte_low (x : Int32) : (x &&& 255).toInt8 = x.toInt8 := by
  apply Int8.toBitVec_inj.1
  apply BitVec.eq_of_getLsbD_eq
  intro i hi
  have h2 : (255 : Int32).toBitVec.getLsbD i = true := by
    have : ∀ j : Fin 8, (255 : Int32).toBitVec.getLsbD j.val = true := by decide +kernel
    exact this ⟨i, hi⟩
  have h4 : (x &&& 255).toBitVec.getLsbD i = x.toBitVec.getLsbD i := by
    show (x.toBitVec &&& (255 : Int32).toBitVec).getLsbD i = _
    rw [BitVec.getLsbD_and, h2, Bool.and_true]
  have h3 : i < 32 := by omega
  first
    | (show (((x &&& 255).toBitVec).signExtend 8).getLsbD i = (x.toBitVec.signExtend 8).getLsbD i; rw [BitVec.getLsbD_signExtend, BitVec.getLsbD_signExtend, if_pos h3, if_pos h3, h4])
    | (show (((x &&& 255).toBitVec).setWidth 8).getLsbD i = (x.toBitVec.setWidth 8).getLsbD i; rw [BitVec.getLsbD_setWidth, BitVec.getLsbD_setWidth, h4])
    | (simp [hi, h3, h4]; done)
theorem fa_short_low (x : Int32) : (x &&& 65535).toInt16 = x.toInt16 := by
  apply Int16.toBitVec_inj.1
  apply BitVec.eq_of_getLsbD_eq
  intro i hi
  have h2 : (65535 : Int32).toBitVec.getLsbD i = true := by
    have : ∀ j : Fin 16, (65535 : Int32).toBitVec.getLsbD j.val = true := by decide +kernel
    exact this ⟨i, hi⟩
  have h4 : (x &&& 65535).toBitVec.getLsbD i = x.toBitVec.getLsbD i := by
    show (x.toBitVec &&& (65535 : Int32).toBitVec).getLsbD i = _
    rw [BitVec.getLsbD_and, h2, Bool.and_true]
  have h3 : i < 32 := by omega
  first
    | (show (((x &&& 65535).toBitVec).signExtend 16).getLsbD i = (x.toBitVec.signExtend 16).getLsbD i; rw [BitVec.getLsbD_signExtend, BitVec.getLsbD_signExtend, if_pos h3, if_pos h3, h4])
    | (show (((x &&& 65535).toBitVec).setWidth 16).getLsbD i = (x.toBitVec.setWidth 16).getLsbD i; rw [BitVec.getLsbD_setWidth, BitVec.getLsbD_setWidth, h4])
    | (simp [hi, h3, h4]; done)
/-- a small number is its own byte, its own short -/
theorem fa_byte_small {n : Nat} (h : n < 128) : (nI n).toInt8.toInt32 = nI n := by
  have : ∀ j : Fin 128, (nI j.val).toInt8.toInt32 = nI j.val := by decide +kernel
  exact this ⟨n, h⟩
/-! ===== absolute difference ===== -/
theorem fa_absdiff {a b : Nat} (ha : a < 2 ^ 31) (hb : b < 2 ^ 31) : (if nI a < nI b then nI b - nI a else nI a - nI b) = nI (if a < b then b - a else a - b) := by
  by_cases h : a < b
  · rw [if_pos (nI_lt h hb), if_pos h]
    exact pk_sub (Nat.le_of_lt h)
  · rw [if_neg (nI_nlt (Nat.le_of_not_lt h) ha), if_neg h]
    exact pk_sub (Nat.le_of_not_lt h)
/-! ===== an array behind i stores, a conditional store, a row copied ===== -/
/-- f where k < i, what stood there else -/
def fa_fill {α : Type} (f g : Nat → α) (i : Nat) : Nat → α := fun k => if k < i then f k else g k
theorem fa_fill_0 {α : Type} (f g : Nat → α) : fa_fill f g 0 = g := funext fun k => if_neg (Nat.not_lt_zero k)
theorem fa_fill_in {α : Type} {f g : Nat → α} {i k : Nat} (h : k < i) : fa_fill f g i k = f k := if_pos h
theorem fa_fill_out {α : Type} {f g : Nat → α} {i k : Nat} (h : i ≤ k) : fa_fill f g i k = g k := if_neg (Nat.not_lt.mpr h)
theorem fa_fill_succ (f g : Nat → Int32) (i : Nat) : upd (fa_fill f g i) i (f i) = fa_fill f g (i + 1) := by
  funext k
  by_cases e : k = i
  · subst e
    rw [pk_us]
    exact (if_pos (Nat.lt_succ_self k)).symm
  · rw [pk_un e]
    by_cases h : k < i
    · rw [fa_fill_in h, fa_fill_in (Nat.lt_succ_of_lt h)]
    · rw [fa_fill_out (Nat.le_of_not_lt h), fa_fill_out (by omega)]
/-- a store that changes nothing -/
theorem fa_upd_same {f : Nat → Int32} {i : Nat} {x : Int32} (h : f i = x) : upd f i x = f := by
  funext k
  by_cases e : k = i
  · subst e
    rw [pk_us, h]
  · rw [pk_un e]
/-- a store under a condition, told as one -/
theorem fa_upd_if (c : Prop) [Decidable c] (f : Nat → Int32) (i : Nat) (x : Int32) : (if c then upd f i x else f) = upd f i (if c then x else f i) := by
  by_cases h : c
  · rw [if_pos h, if_pos h]
  · rw [if_neg h, if_neg h, fa_upd_same rfl]
/-- two stores at one place, at two -/
theorem fa_upd_twice (f : Nat → Int32) (i : Nat) (x y : Int32) : upd (upd f i x) i y = upd f i y := by
  funext k
  by_cases e : k = i
  · subst e
    rw [pk_us, pk_us]
  · rw [pk_un e, pk_un e, pk_un e]
theorem fa_upd_swap (f : Nat → Int32) {i j : Nat} (h : i ≠ j) (x y : Int32) : upd (upd f i x) j y = upd (upd f j y) i x := by
  funext k
  by_cases e : k = i
  · subst e
    rw [pk_un h, pk_us, pk_us]
  · by_cases e2 : k = j
    · subst e2
      rw [pk_us, pk_un e, pk_us]
    · rw [pk_un e2, pk_un e, pk_un e, pk_un e2]
/-! ===== the first index with a property; a count ===== -/
/-- the first k < n with p k, n if there is none -/
def fa_first (p : Nat → Bool) : Nat → Nat
  | 0 => 0
  | n + 1 => if fa_first p n < n then fa_first p n else if p n then n else n + 1
theorem fa_first_le (p : Nat → Bool) : ∀ n, fa_first p n ≤ n
  | 0 => Nat.le_refl 0
  | n + 1 => by
    have ih := fa_first_le p n
    unfold fa_first
    split
    · omega
    · split
      · omega
      · omega
theorem fa_first_no (p : Nat → Bool) : ∀ n k, k < fa_first p n → p k = false
  | 0, k, h => absurd h (Nat.not_lt_zero k)
  | n + 1, k, h => by
    have ih := fa_first_no p n
    have hl := fa_first_le p n
    unfold fa_first at h
    split at h
    · exact ih k h
    · rename_i h1
      split at h
      · exact ih k (by omega)
      · rename_i h2
        by_cases e : k = n
        · subst e
          exact Bool.eq_false_iff.mpr h2
        · exact ih k (by omega)
theorem fa_first_yes (p : Nat → Bool) : ∀ n, fa_first p n < n → p (fa_first p n) = true
  | 0, h => absurd h (Nat.not_lt_zero _)
  | n + 1, h => by
    have ih := fa_first_yes p n
    have hl := fa_first_le p n
    unfold fa_first at h ⊢
    split at h
    · rename_i h1
      rw [if_pos h1]
      exact ih h1
    · rename_i h1
      rw [if_neg h1]
      split at h
      · rename_i h2
        rw [if_pos h2]
        exact h2
      · omega
/-- how many k < n have p k -/
def fa_cnt (p : Nat → Bool) : Nat → Nat
  | 0 => 0
  | n + 1 => fa_cnt p n + if p n then 1 else 0
theorem fa_cnt_le (p : Nat → Bool) : ∀ n, fa_cnt p n ≤ n
  | 0 => Nat.le_refl 0
  | n + 1 => by
    have ih := fa_cnt_le p n
    unfold fa_cnt
    split
    · omega
    · omega
theorem fa_cnt_yes {p : Nat → Bool} {n : Nat} (h : p n = true) : fa_cnt p (n + 1) = fa_cnt p n + 1 := by rw [fa_cnt, if_pos h]
theorem fa_cnt_no {p : Nat → Bool} {n : Nat} (h : p n = false) : fa_cnt p (n + 1) = fa_cnt p n := by rw [fa_cnt, if_neg (by rw [h]; decide)]; rfl
theorem fa_cnt_cong {p q : Nat → Bool} : ∀ {n : Nat}, (∀ k, k < n → p k = q k) → fa_cnt p n = fa_cnt q n
  | 0, _ => rfl
  | n + 1, h => by rw [fa_cnt, fa_cnt, fa_cnt_cong (fun k hk => h k (Nat.lt_succ_of_lt hk)), h n (Nat.lt_succ_self n)]
/-! ===== an answer carried into a post; a branch on a boolean answer ===== -/
theorem fa_post {α : Type} {P : α → Prop} {x y : α} (h : x = y) (hp : P y) : P x := h ▸ hp
theorem fa_post2 {α β : Type} {P : α → β → Prop} {x y : α} {u v : β} (h : x = y) (h2 : u = v) (hp : P y v) : P x u := h ▸ h2 ▸ hp
theorem fa_bool {r : Int32} {b : Bool} (h : r = if b then 1 else 0) : (r = 0 ↔ b = false) ∧ (¬ r = 0 ↔ b = true) := by
  subst h
  cases b
  · exact ⟨⟨fun _ => rfl, fun _ => rfl⟩, ⟨fun h => absurd rfl h, fun h => absurd h (by decide)⟩⟩
  · exact ⟨⟨fun h => absurd h (by decide), fun h => absurd h (by decide)⟩, ⟨fun _ => rfl, fun _ => by decide⟩⟩
/-- a boolean's narrowing changes nothing -/
theorem fa_bool_and {r : Int32} (h : r = 0 ∨ r = 1) : r &&& 1 = r := by
  rcases h with rfl | rfl
  · decide
  · decide
theorem fa_bool_prop {c : Prop} [Decidable c] {r : Int32} (h : r = if c then 1 else 0) : (r = 0 ↔ ¬ c) ∧ (¬ r = 0 ↔ c) := by
  subst h
  by_cases hc : c
  · rw [if_pos hc]
    exact ⟨⟨fun h => absurd h (by decide), fun h => absurd hc h⟩, ⟨fun _ => hc, fun _ => by decide⟩⟩
  · rw [if_neg hc]
    exact ⟨⟨fun _ => hc, fun _ => rfl⟩, ⟨fun h => absurd rfl h, fun h => absurd h hc⟩⟩
end
section
set_option maxRecDepth 100000 in
set_option maxHeartbeats 4000000 in
theorem m_X3_nextState {G : zG} {N : Nat} {Λ : zLay} {l : Launch} (hO : zOK G l) (z : zM) {m v q : Nat} (hm : m < 9973) (hv : v < 1000) (hq : q ≤ 6) : zMet G N Λ l yX3_nextState cX3_nextState 3 (some .int) 0 [.int (nI m), .int (pI q), .int (nI v)] z (some (.int (nI (nx m v q)))) z := by
  refine zMet_of hO (by decide) (Nat.le_of_ble_eq_true rfl) ?_
  intro pP eE sS mM bB tT cC ls C hw hl
  have hl : lv_has ls 3 [(0, .int (nI m)), (1, .int (pI q)), (2, .int (nI v))] := hl
  refine lv_bipush (v := 31) C.x C.b dX3_nextState_0 (by decide) ?_
  refine lv_iload_n C.x C.b dX3_nextState_2 rfl (lv_at hl 0 rfl) ?_
  refine lv_imul C.x C.b dX3_nextState_3 ?_
  refine lv_bipush (v := 17) C.x C.b dX3_nextState_4 (by decide) ?_
  refine lv_iload_n C.x C.b dX3_nextState_6 rfl (lv_at hl 2 rfl) ?_
  refine lv_imul C.x C.b dX3_nextState_7 ?_
  refine lv_iadd C.x C.b dX3_nextState_8 ?_
  refine lv_iload_n C.x C.b dX3_nextState_9 rfl (lv_at hl 1 rfl) ?_
  refine lv_iadd C.x C.b dX3_nextState_10 ?_
  refine lv_iconst (v := 2) C.x C.b dX3_nextState_11 (by decide) ?_
  refine lv_iadd C.x C.b dX3_nextState_12 ?_
  refine z_topi (y := nI (31 * m + 17 * v + q + 1)) (nx_i m v q) ?_
  refine lv_sipush (v := 9973) C.x C.b dX3_nextState_13 (by decide) ?_
  refine lv_irem C.x C.b dX3_nextState_16 (by decide) ?_
  refine z_topi (y := nI (nx m v q)) (zrem 9973 (by omega) (by omega) (by omega)) ?_
  exact z_iret C hw dX3_nextState_17 (rfl) (rfl)

set_option maxRecDepth 100000 in
set_option maxHeartbeats 4000000 in
theorem m_X3_hasOutput {G : zG} {N : Nat} {Λ : zLay} {l : Launch} (hO : zOK G l) (z : zM) {m : Nat} (hm : m < 9973) : zMet G N Λ l yX3_hasOutput cX3_hasOutput 1 (some .boolean) 0 [.int (nI m)] z (some (.int (hasO m))) z := by
  refine zMet_of hO (by decide) (Nat.le_of_ble_eq_true rfl) ?_
  intro pP eE sS mM bB tT cC ls C hw hl
  have hl : lv_has ls 1 [(0, .int (nI m))] := hl
  refine lv_iload_n C.x C.b dX3_hasOutput_0 rfl (lv_at hl 0 rfl) ?_
  refine lv_iconst (v := 3) C.x C.b dX3_hasOutput_1 (by decide) ?_
  refine lv_irem C.x C.b dX3_hasOutput_2 (by decide) ?_
  refine z_topi (y := nI (m % 3)) (zrem 3 (by omega) (by omega) (by omega)) ?_
  refine lv_if_ne (tgt := 10) C.x C.b dX3_hasOutput_3 (by decide) (fun c_3 => ?_) (fun c_3 => ?_)
  · refine lv_iconst (v := 0) C.x C.b dX3_hasOutput_10 (by decide) ?_
    exact z_zret C hw dX3_hasOutput_11 (by decide) (by rw [hasO, if_neg (fun q => c_3 (by rw [q]; rfl))]) (rfl)
  · refine lv_iconst (v := 1) C.x C.b dX3_hasOutput_6 (by decide) ?_
    refine lv_goto (tgt := 11) C.x C.b dX3_hasOutput_7 (by decide) ?_
    exact z_zret C hw dX3_hasOutput_11 (by decide) (by rw [hasO, if_pos ((nI_eq (b := 0) (by omega) (by omega)).mp c_3)]) (rfl)

set_option maxRecDepth 100000 in
set_option maxHeartbeats 4000000 in
theorem m_X3_outputValue {G : zG} {N : Nat} {Λ : zLay} {l : Launch} (hO : zOK G l) (z : zM) {m : Nat} (hm : m < 9973) : zMet G N Λ l yX3_outputValue cX3_outputValue 1 (some .int) 0 [.int (nI m)] z (some (.int (nI (m % 1000)))) z := by
  refine zMet_of hO (by decide) (Nat.le_of_ble_eq_true rfl) ?_
  intro pP eE sS mM bB tT cC ls C hw hl
  have hl : lv_has ls 1 [(0, .int (nI m))] := hl
  refine lv_iload_n C.x C.b dX3_outputValue_0 rfl (lv_at hl 0 rfl) ?_
  refine lv_sipush (v := 1000) C.x C.b dX3_outputValue_1 (by decide) ?_
  refine lv_irem C.x C.b dX3_outputValue_4 (by decide) ?_
  refine z_topi (y := nI (m % 1000)) (zrem 1000 (by omega) (by omega) (by omega)) ?_
  exact z_iret C hw dX3_outputValue_5 (rfl) (rfl)

set_option maxRecDepth 100000 in
set_option maxHeartbeats 4000000 in
theorem m_X3_outputPeer {G : zG} {N : Nat} {Λ : zLay} {l : Launch} (hO : zOK G l) (z : zM) {x m n : Nat} (hm : m < 9973) (hn : 2 ≤ n) (hn6 : n ≤ 6) (hx : x < n) : zMet G N Λ l yX3_outputPeer cX3_outputPeer 5 (some .int) 0 [.int (nI x), .int (nI m), .int (nI n)] z (some (.int (nI (gt x m n)))) z := by
  refine zMet_of hO (by decide) (Nat.le_of_ble_eq_true rfl) ?_
  intro pP eE sS mM bB tT cC ls C hw hl
  have hl : lv_has ls 5 [(0, .int (nI x)), (1, .int (nI m)), (2, .int (nI n))] := hl
  have h1 : m % (n - 1) < n - 1 := Nat.mod_lt _ (by omega)
  refine lv_iload_n C.x C.b dX3_outputPeer_0 rfl (lv_at hl 2 rfl) ?_
  refine lv_iconst (v := 1) C.x C.b dX3_outputPeer_1 (by decide) ?_
  refine lv_isub C.x C.b dX3_outputPeer_2 ?_
  refine z_topi (y := nI (n - 1)) (by rw [zlit 1, zsub (by omega)]) ?_
  refine lv_istore_n (lv' := [(3, .int (nI (n - 1))), (0, .int (nI x)), (1, .int (nI m)), (2, .int (nI n))]) C.x C.b dX3_outputPeer_3 rfl hl (by decide) rfl (fun ls hl => ?_)
  refine lv_iload_n C.x C.b dX3_outputPeer_4 rfl (lv_at hl 1 rfl) ?_
  refine lv_iconst (v := 1) C.x C.b dX3_outputPeer_5 (by decide) ?_
  refine lv_iadd C.x C.b dX3_outputPeer_6 ?_
  refine lv_iload_n C.x C.b dX3_outputPeer_7 rfl (lv_at hl 0 rfl) ?_
  refine lv_if_le (tgt := 17) C.x C.b dX3_outputPeer_8 (by decide) (fun c_8 => absurd c_8 (nI_nle (by omega) (by omega))) (fun c_8 => ?_)
  refine lv_iload_n C.x C.b dX3_outputPeer_11 rfl (lv_at hl 2 rfl) ?_
  refine lv_iload_n C.x C.b dX3_outputPeer_12 rfl (lv_at hl 0 rfl) ?_
  refine lv_irem C.x C.b dX3_outputPeer_13 (nI_ne0 (by omega) (by omega)) ?_
  refine z_topi (y := nI (m % (n - 1))) (zrem (n - 1) (by omega) (by omega) (by omega)) ?_
  refine lv_goto (tgt := 18) C.x C.b dX3_outputPeer_14 (by decide) ?_
  refine lv_iadd C.x C.b dX3_outputPeer_18 ?_
  refine z_topi (y := nI (x + 1 + m % (n - 1))) (by rw [zlit 1, nI_add, nI_add]) ?_
  refine lv_istore (lv' := [(4, .int (nI (x + 1 + m % (n - 1)))), (3, .int (nI (n - 1))), (0, .int (nI x)), (1, .int (nI m)), (2, .int (nI n))]) C.x C.b dX3_outputPeer_19 hl (by decide) rfl (fun ls hl => ?_)
  refine lv_iload C.x C.b dX3_outputPeer_21 (lv_at hl 0 rfl) ?_
  refine lv_iload_n C.x C.b dX3_outputPeer_23 rfl (lv_at hl 4 rfl) ?_
  refine lv_icmp_lt (tgt := 34) C.x C.b dX3_outputPeer_24 (by decide) (fun c_24 => ?_) (fun c_24 => ?_)
  · refine lv_iload C.x C.b dX3_outputPeer_34 (lv_at hl 0 rfl) ?_
    refine z_pc (pc2 := 36) rfl ?_
    exact z_iret C hw dX3_outputPeer_36 (by rw [gt_lo ((nI_ltI (by omega) (by omega)).mp c_24)]) (rfl)
  · refine lv_iload C.x C.b dX3_outputPeer_27 (lv_at hl 0 rfl) ?_
    refine z_pc (pc2 := 29) rfl ?_
    refine lv_iload_n C.x C.b dX3_outputPeer_29 rfl (lv_at hl 4 rfl) ?_
    refine lv_isub C.x C.b dX3_outputPeer_30 ?_
    refine z_topi (y := nI (x + 1 + m % (n - 1) - n)) (zsub (Nat.le_of_not_lt (fun q => c_24 (zlt (by omega) q)))) ?_
    refine lv_goto (tgt := 36) C.x C.b dX3_outputPeer_31 (by decide) ?_
    exact z_iret C hw dX3_outputPeer_36 (by rw [gt_hi hn hx (fun q => c_24 (zlt (by omega) q))]) (rfl)

set_option maxRecDepth 100000 in
set_option maxHeartbeats 4000000 in
theorem m_X3_nextChain {G : zG} {N : Nat} {Λ : zLay} {l : Launch} (hO : zOK G l) (z : zM) {h a q v : Nat} (hh : h < 2147483647) (ha : a ≤ 2) (hq : q ≤ 6) (hv : v < 1000) : zMet G N Λ l yX3_nextChain cX3_nextChain 4 (some .int) 0 [.int (nI h), .int (nI a), .int (pI q), .int (nI v)] z (some (.int (nI (nc h a q v)))) z := by
  refine zMet_of hO (by decide) (Nat.le_of_ble_eq_true rfl) ?_
  intro pP eE sS mM bB tT cC ls C hw hl
  have hl : lv_has ls 4 [(0, .int (nI h)), (1, .int (nI a)), (2, .int (pI q)), (3, .int (nI v))] := hl
  refine lv_iload_n C.x C.b dX3_nextChain_0 rfl (lv_at hl 0 rfl) ?_
  refine lv_i2l C.x C.b dX3_nextChain_1 rfl ?_
  refine lv_ldc2 (v := 1000003) C.x C.b C.ow (C.w ctX3_224) dX3_nextChain_2 ?_
  refine lv_lmul C.x C.b dX3_nextChain_5 ?_
  refine lv_bipush (v := 7) C.x C.b dX3_nextChain_6 (by decide) ?_
  refine lv_iload_n C.x C.b dX3_nextChain_8 rfl (lv_at hl 1 rfl) ?_
  refine lv_imul C.x C.b dX3_nextChain_9 ?_
  refine lv_i2l C.x C.b dX3_nextChain_10 rfl ?_
  refine lv_ladd C.x C.b dX3_nextChain_11 ?_
  refine lv_bipush (v := 31) C.x C.b dX3_nextChain_12 (by decide) ?_
  refine lv_iload_n C.x C.b dX3_nextChain_14 rfl (lv_at hl 2 rfl) ?_
  refine lv_iconst (v := 1) C.x C.b dX3_nextChain_15 (by decide) ?_
  refine lv_iadd C.x C.b dX3_nextChain_16 ?_
  refine lv_imul C.x C.b dX3_nextChain_17 ?_
  refine lv_i2l C.x C.b dX3_nextChain_18 rfl ?_
  refine lv_ladd C.x C.b dX3_nextChain_19 ?_
  refine lv_sipush (v := 257) C.x C.b dX3_nextChain_20 (by decide) ?_
  refine lv_iload_n C.x C.b dX3_nextChain_23 rfl (lv_at hl 3 rfl) ?_
  refine lv_imul C.x C.b dX3_nextChain_24 ?_
  refine z_pc (pc2 := 25) rfl ?_
  refine lv_i2l C.x C.b dX3_nextChain_25 rfl ?_
  refine lv_ladd C.x C.b dX3_nextChain_26 ?_
  refine lv_ldc2 (v := 2147483647) C.x C.b C.ow (C.w ctX3_226) dX3_nextChain_27 ?_
  refine lv_lrem C.x C.b dX3_nextChain_30 (by decide) ?_
  refine lv_l2i C.x C.b dX3_nextChain_31 rfl ?_
  refine z_topi (y := nI (nc h a q v)) (by rw [nc_sum hh ha hq hv, zlitL 2147483647, pk_lRem (by omega) (by omega) (by omega), lN_i]; rfl) ?_
  exact z_iret C hw dX3_nextChain_32 (rfl) (rfl)

set_option maxRecDepth 100000 in
set_option maxHeartbeats 4000000 in
theorem m_X3_othersOf {G : zG} {N : Nat} {Λ : zLay} {l : Launch} (hO : zOK G l) (z : zM) {x n : Nat} : zMet G N Λ l yX3_othersOf cX3_othersOf 2 (some .int) 0 [.int (nI x), .int (nI n)] z (some (.int (othI x n))) z := by
  refine zMet_of hO (by decide) (Nat.le_of_ble_eq_true rfl) ?_
  intro pP eE sS mM bB tT cC ls C hw hl
  have hl : lv_has ls 2 [(0, .int (nI x)), (1, .int (nI n))] := hl
  refine lv_iconst (v := 1) C.x C.b dX3_othersOf_0 (by decide) ?_
  refine lv_iload_n C.x C.b dX3_othersOf_1 rfl (lv_at hl 1 rfl) ?_
  refine lv_ishl C.x C.b dX3_othersOf_2 ?_
  refine lv_iconst (v := 1) C.x C.b dX3_othersOf_3 (by decide) ?_
  refine lv_isub C.x C.b dX3_othersOf_4 ?_
  refine lv_iconst (v := 1) C.x C.b dX3_othersOf_5 (by decide) ?_
  refine lv_iload_n C.x C.b dX3_othersOf_6 rfl (lv_at hl 0 rfl) ?_
  refine lv_ishl C.x C.b dX3_othersOf_7 ?_
  refine lv_iconst (v := -1) C.x C.b dX3_othersOf_8 (by decide) ?_
  refine lv_ixor C.x C.b dX3_othersOf_9 ?_
  refine lv_iand C.x C.b dX3_othersOf_10 ?_
  exact z_iret C hw dX3_othersOf_11 (rfl) (rfl)

set_option maxRecDepth 100000 in
set_option maxHeartbeats 4000000 in
theorem m_X3_mix {G : zG} {N : Nat} {Λ : zLay} {l : Launch} (hO : zOK G l) (z : zM) {h v : Int64} : zMet G N Λ l yX3_mix cX3_mix 4 (some .long) 0 [.long h, .long v] z (some (.long (31 * h + v))) z := by
  refine zMet_of hO (by decide) (Nat.le_of_ble_eq_true rfl) ?_
  intro pP eE sS mM bB tT cC ls C hw hl
  have hl : lv_has ls 4 [(0, .long h), (2, .long v)] := hl
  refine lv_ldc2 (v := 31) C.x C.b C.ow (C.w ctX3_222) dX3_mix_0 ?_
  refine lv_lload_n C.x C.b dX3_mix_3 rfl (lv_at hl 0 rfl) ?_
  refine lv_lmul C.x C.b dX3_mix_4 ?_
  refine lv_lload_n C.x C.b dX3_mix_5 rfl (lv_at hl 1 rfl) ?_
  refine lv_ladd C.x C.b dX3_mix_6 ?_
  exact z_lret C hw dX3_mix_7 (rfl) (rfl)
end
section
/-! ===== what a state IS: numbers, by machine and table; and how the class's cells show it ===== -/
/-- a table: how many rows, and what they hold, by row and column -/
abbrev aT : Type := Nat × (Nat → Nat → Nat)
/-- a machine: (state, silent, about to lie, witnesses), verdicts, log (kind, peer + 1, value), held (machine, entry, chain), pending -/
abbrev aM : Type := (Nat × Nat × Nat × Nat) × (Nat → Nat) × aT × aT × aT
/-- a world: how many machines, the machines, the queue (sender, entry, chain, receiver, value), the evidence -/
abbrev aS : Type := Nat × (Nat → aM) × aT × aT
abbrev aM.st (M : aM) : Nat := M.1.1
abbrev aM.sil (M : aM) : Nat := M.1.2.1
abbrev aM.lie (M : aM) : Nat := M.1.2.2.1
abbrev aM.wit (M : aM) : Nat := M.1.2.2.2
abbrev aM.ver (M : aM) : Nat → Nat := M.2.1
abbrev aM.log (M : aM) : aT := M.2.2.1
abbrev aM.held (M : aM) : aT := M.2.2.2.1
abbrev aM.pend (M : aM) : aT := M.2.2.2.2
abbrev aS.n (S : aS) : Nat := S.1
abbrev aS.m (S : aS) : Nat → aM := S.2.1
abbrev aS.q (S : aS) : aT := S.2.2.1
abbrev aS.ev (S : aS) : aT := S.2.2.2
def row3 (a b c : Nat) : Nat → Nat := fun k => match k with
  | 0 => a
  | 1 => b
  | _ => c
def row4 (a b c d : Nat) : Nat → Nat := fun k => match k with
  | 0 => a
  | 1 => b
  | 2 => c
  | _ => d
def row5 (a b c d f : Nat) : Nat → Nat := fun k => match k with
  | 0 => a
  | 1 => b
  | 2 => c
  | 3 => d
  | _ => f
def tpush (T : aT) (r : Nat → Nat) : aT := (T.1 + 1, va_up T.2 T.1 r)
def tpop (T : aT) : aT := (T.1 - 1, fun j => T.2 (j + 1))
def tkeep (T : aT) (k : Nat) : aT := (k, T.2)
/-- the chain over a log's rows -/
def CH (r : Nat → Nat → Nat) : Nat → Nat
  | 0 => 1
  | j + 1 => nc (CH r j) (r j 0) (r j 1) (r j 2)
theorem CH_lt (r : Nat → Nat → Nat) (j : Nat) : CH r j < 2147483647 := by
  cases j with
  | zero => show 1 < 2147483647; decide
  | succ j => exact nc_lt _ _ _ _
theorem CH_congr {r r' : Nat → Nat → Nat} {k : Nat} (h : ∀ j, j < k → r j = r' j) : CH r k = CH r' k := by
  induction k with
  | zero => rfl
  | succ k ih =>
    show nc _ _ _ _ = nc _ _ _ _
    rw [ih (fun j hj => h j (Nat.lt_succ_of_lt hj)), h k (Nat.lt_succ_self k)]
def pk (a q v : Nat) : Nat := 100000 * a + 10000 * q + v
/-- a table's cells in the class: the object at t, the cells at t + 1 -/
def rTb (z : zM) (t w : Nat) (T : aT) : Prop := z.1 t 3 = nI T.1 ∧ ∀ j, j < T.1 → ∀ c, c < w → z.1 (t + 1) (j * w + c) = nI (T.2 j c)
/-- a log's rows, its chain left out -/
def rRow (z : zM) (t k : Nat) (r : Nat → Nat → Nat) : Prop := ∀ j, j < k → z.1 (t + 1) (j * 4 + 0) = nI (r j 0) ∧ z.1 (t + 1) (j * 4 + 1) = pI (r j 1) ∧ z.1 (t + 1) (j * 4 + 2) = nI (r j 2)
def rLog (z : zM) (t : Nat) (T : aT) : Prop := z.1 t 3 = nI T.1 ∧ rRow z t T.1 T.2 ∧ ∀ j, j < T.1 → z.1 (t + 1) (j * 4 + 3) = nI (CH T.2 (j + 1))
def rM (z : zM) (b : Nat) (M : aM) : Prop := (z.1 b 1 = nI M.st ∧ z.1 b 2 = nI M.sil ∧ z.1 b 3 = nI M.lie ∧ z.1 b 4 = nI M.wit) ∧ (∀ w, w < 6 → z.1 (b + 1) w = nI (M.ver w)) ∧ rLog z (b + 2) M.log ∧ rTb z (b + 4) 3 M.held ∧ rTb z (b + 6) 5 M.pend
def rCnt (z : zM) (t mc : Nat) : Prop := ∃ k, k ≤ mc ∧ z.1 t 3 = nI k
/-- the counts of a machine's tables are in range, whether the machine is in use or not -/
def rSane (z : zM) (b : Nat) : Prop := rCnt z (b + 2) 40 ∧ rCnt z (b + 4) 60 ∧ rCnt z (b + 6) 40
def rW (z : zM) (b : Nat) (S : aS) : Prop := z.1 b 0 = nI S.n ∧ (∀ x, x < S.n → rM z (b + 2 + 8 * x) (S.m x)) ∧ rTb z (b + 50) 5 S.q ∧ rTb z (b + 52) 4 S.ev
def rAll (z : zM) (b : Nat) : Prop := (∀ x, x < 6 → rSane z (b + 2 + 8 * x)) ∧ rCnt z (b + 50) 40 ∧ rCnt z (b + 52) 30
/-- nothing but the n cells from lo on has changed -/
def zfr (z z' : zM) (lo n : Nat) : Prop := (∀ i, (i < lo ∨ lo + n ≤ i) → z'.1 i = z.1 i) ∧ z'.2 = z.2
/-- what a log's rows may hold -/
def okRow (r : Nat → Nat → Nat) (k : Nat) : Prop := ∀ j, j < k → r j 0 ≤ 2 ∧ r j 1 ≤ 6 ∧ r j 2 < 1000
def chv (z : zM) (c i : Nat) : Int32 := if i = 0 then 1 else z.1 c ((i - 1) * 4 + 3)
theorem chv_log {z : zM} {t : Nat} {T : aT} (h : rLog z t T) {i : Nat} (hi : i ≤ T.1) : chv z (t + 1) i = nI (CH T.2 i) := by
  cases i with
  | zero => rfl
  | succ i => exact h.2.2 i (by omega)
def lapp (z : zM) (t k a q v h : Nat) : zM := zi (zi (zi (zi (zi z t 3 (nI (k + 1))) (t + 1) (k * 4 + 0) (nI a)) (t + 1) (k * 4 + 1) (pI q)) (t + 1) (k * 4 + 2) (nI v)) (t + 1) (k * 4 + 3) (nI (nc h a q v))
theorem lapp_fr (z : zM) (t k a q v h : Nat) : zfr z (lapp z t k a q v h) t 2 := by
  refine ⟨fun i hi => ?_, rfl⟩
  funext j
  simp only [lapp, zi_at]
  rw [if_neg (by omega), if_neg (by omega), if_neg (by omega), if_neg (by omega), if_neg (by omega)]
theorem lapp_log {z : zM} {t : Nat} {T : aT} (h : rLog z t T) (a q v : Nat) : rLog (lapp z t T.1 a q v (CH T.2 T.1)) t (tpush T (row3 a q v)) := by
  have hr : ∀ j, j < T.1 → (tpush T (row3 a q v)).2 j = T.2 j := fun j hj => va_up_ne _ _ (by omega)
  have hrk : (tpush T (row3 a q v)).2 T.1 = row3 a q v := va_up_self _ _ _
  have hn : ∀ i j, i = t + 1 → (∀ c, c < 4 → j ≠ T.1 * 4 + c) → (lapp z t T.1 a q v (CH T.2 T.1)).1 i j = z.1 i j := by
    intro i j hi hj
    have h0 := hj 0 (by omega)
    have h1 := hj 1 (by omega)
    have h2 := hj 2 (by omega)
    have h3 := hj 3 (by omega)
    simp only [lapp, zi_at]
    rw [if_neg (by omega), if_neg (by omega), if_neg (by omega), if_neg (by omega), if_neg (by omega)]
  have hc : ∀ j, j ≤ T.1 → CH (tpush T (row3 a q v)).2 j = CH T.2 j := fun j hj => CH_congr (fun i hi => hr i (by omega))
  refine ⟨?_, fun j hj => ?_, fun j hj => ?_⟩
  · simp only [lapp, zi_at]
    rw [if_neg (by omega), if_neg (by omega), if_neg (by omega), if_neg (by omega), if_pos (by simp)]
    rfl
  · have hj : j < T.1 + 1 := hj
    by_cases hjk : j = T.1
    · subst hjk
      rw [hrk]
      simp only [lapp, zi_at]
      refine ⟨?_, ?_, ?_⟩
      · rw [if_neg (by omega), if_neg (by omega), if_neg (by omega), if_pos (by simp)]; rfl
      · rw [if_neg (by omega), if_neg (by omega), if_pos (by simp)]; rfl
      · rw [if_neg (by omega), if_pos (by simp)]; rfl
    · have hj2 : j < T.1 := by omega
      rw [hr j hj2, hn _ _ rfl (by omega), hn _ _ rfl (by omega), hn _ _ rfl (by omega)]
      exact h.2.1 j hj2
  · have hj : j < T.1 + 1 := hj
    by_cases hjk : j = T.1
    · subst hjk
      show _ = nI (nc (CH (tpush T (row3 a q v)).2 T.1) _ _ _)
      rw [hc _ (Nat.le_refl _), hrk]
      simp only [lapp, zi_at]
      rw [if_pos (by simp)]; rfl
    · have hj2 : j < T.1 := by omega
      rw [hc (j + 1) (by omega), hn _ _ rfl (by omega)]
      exact h.2.2 j hj2
theorem zpos {i : Nat} (h : ¬ nI i = 0) : 1 ≤ i := Nat.pos_of_ne_zero (fun q => h (by rw [q]; rfl))
theorem zzero {i : Nat} (hi : i < 2 ^ 31) (h : nI i = 0) : i = 0 := (nI_eq (b := 0) hi (by omega)).mp h
theorem zbool {n : Nat} (h : n < 2) : narrow .boolean (.int (nI n)) = .int (nI n) := by
  rcases (show n = 0 ∨ n = 1 by omega) with rfl | rfl <;> rfl
theorem zboolf {n : Nat} (h : n < 2) : fits .boolean (.int (nI n)) = true := by
  rcases (show n = 0 ∨ n = 1 by omega) with rfl | rfl <;> rfl
theorem pI_eq {a b : Nat} (ha : a ≤ 6) (hb : b ≤ 6) : pI a = pI b ↔ a = b := by
  refine ⟨fun h => ?_, fun h => by rw [h]⟩
  have h2 : pI a + 1 = pI b + 1 := by rw [h]
  rw [pI_1, pI_1] at h2
  exact (nI_eq (by omega) (by omega)).mp h2
def oI (o : Option Nat) : Int32 := match o with
  | none => -1
  | some e => nI e
/-- the log's chain anew, from entry e on, as far as entry k -/
def rchz (z : zM) (c : Nat) (r : Nat → Nat → Nat) (e k : Nat) : zM := zr z c (fun i => if i % 4 = 3 ∧ e ≤ i / 4 ∧ i / 4 < k then nI (CH r (i / 4 + 1)) else z.1 c i)
theorem rchz_0 (z : zM) (c : Nat) (r : Nat → Nat → Nat) (e : Nat) : rchz z c r e e = z := by
  refine Prod.ext (funext fun a => ?_) rfl
  by_cases h : a = c
  · subst h
    rw [rchz, zr_s]
    funext i
    rw [if_neg (by omega)]
  · rw [rchz, zr_n _ _ h]
theorem rchz_at (z : zM) (c : Nat) (r : Nat → Nat → Nat) (e k i : Nat) : (rchz z c r e k).1 c i = if i % 4 = 3 ∧ e ≤ i / 4 ∧ i / 4 < k then nI (CH r (i / 4 + 1)) else z.1 c i := by rw [rchz, zr_s]
theorem rchz_n (z : zM) {c i : Nat} (r : Nat → Nat → Nat) (e k : Nat) (h : i ≠ c) : (rchz z c r e k).1 i = z.1 i := zr_n _ _ h
theorem rchz_fr (z : zM) (c : Nat) (r : Nat → Nat → Nat) (e k : Nat) : zfr z (rchz z c r e k) c 1 := ⟨fun i hi => rchz_n z r e k (by omega), rfl⟩
theorem rchz_step (z : zM) (c : Nat) (r : Nat → Nat → Nat) {e k : Nat} (h : e ≤ k) : zi (rchz z c r e k) c (k * 4 + 3) (nI (CH r (k + 1))) = rchz z c r e (k + 1) := by
  refine Prod.ext (funext fun a => funext fun i => ?_) rfl
  rw [zi_at]
  by_cases ha : a = c
  · subst ha
    rw [rchz_at, rchz_at]
    by_cases hi : i = k * 4 + 3
    · subst hi
      have h1 : (k * 4 + 3) % 4 = 3 := by omega
      have h2 : (k * 4 + 3) / 4 = k := by omega
      rw [if_pos ⟨rfl, rfl⟩, h1, h2, if_pos ⟨rfl, h, Nat.lt_succ_self k⟩]
    · rw [if_neg (fun q => hi q.2)]
      by_cases hq : i % 4 = 3 ∧ e ≤ i / 4 ∧ i / 4 < k
      · rw [if_pos hq, if_pos (by omega)]
      · rw [if_neg hq, if_neg (by omega)]
  · rw [if_neg (fun q => ha q.1), rchz_n _ _ _ _ ha, rchz_n _ _ _ _ ha]
theorem rchz_row {z : zM} {t : Nat} {r : Nat → Nat → Nat} {k : Nat} (h : rRow z t k r) (e j : Nat) : rRow (rchz z (t + 1) r e j) t k r := fun i hi => by
  rw [rchz_at, rchz_at, rchz_at, if_neg (by omega), if_neg (by omega), if_neg (by omega)]
  exact h i hi
theorem rchz_ch {z : zM} {c : Nat} {r : Nat → Nat → Nat} {e : Nat} (h : ∀ j, j < e → z.1 c (j * 4 + 3) = nI (CH r (j + 1))) (k j : Nat) (hj : j < k) : (rchz z c r e k).1 c (j * 4 + 3) = nI (CH r (j + 1)) := by
  have h1 : (j * 4 + 3) % 4 = 3 := by omega
  have h2 : (j * 4 + 3) / 4 = j := by omega
  rw [rchz_at, h1, h2]
  by_cases he : e ≤ j
  · rw [if_pos ⟨rfl, he, hj⟩]
  · rw [if_neg (by omega)]
    exact h j (by omega)
theorem rchz_chv {z : zM} {c : Nat} {r : Nat → Nat → Nat} {e : Nat} (h : ∀ j, j < e → z.1 c (j * 4 + 3) = nI (CH r (j + 1))) (k : Nat) : chv (rchz z c r e k) c k = nI (CH r k) := by
  cases k with
  | zero => rfl
  | succ k => exact rchz_ch h (k + 1) k (Nat.lt_succ_self k)
theorem rchz_log {z : zM} {t : Nat} {T : aT} (hk : z.1 t 3 = nI T.1) (hr : rRow z t T.1 T.2) {e : Nat} (h : ∀ j, j < e → z.1 (t + 1) (j * 4 + 3) = nI (CH T.2 (j + 1))) : rLog (rchz z (t + 1) T.2 e T.1) t T :=
  ⟨by rw [rchz_n _ _ _ _ (by omega)]; exact hk, rchz_row hr e T.1, fun j hj => rchz_ch h T.1 j hj⟩
/-- a row of three behind the last -/
def hld (z : zM) (t k : Nat) (m e c : Int32) : zM := zi (zi (zi (zi z t 3 (nI (k + 1))) (t + 1) (k * 3 + 0) m) (t + 1) (k * 3 + 1) e) (t + 1) (k * 3 + 2) c
def rmv (z : zM) (t w k : Nat) : zM := zr (zi z t 3 (nI (k - 1))) (t + 1) (va_cpy (z.1 (t + 1)) (z.1 (t + 1)) w 0 ((k - 1) * w))
/-- the first entry of machine x that a holder's authenticators belie -/
def bel (Hd L : aT) (x : Nat) : Nat → Nat → Option Nat
  | 0, _ => none
  | d + 1, j => if Hd.2 j 0 = x ∧ (L.1 ≤ Hd.2 j 1 ∨ CH L.2 (Hd.2 j 1 + 1) ≠ Hd.2 j 2) then some (Hd.2 j 1) else bel Hd L x d (j + 1)
/-- the first place at which a log isn't what its machine would do -/
def rpl (r : Nat → Nat → Nat) (k x n : Nat) : Nat → Nat → Nat → Option Nat
  | 0, _, _ => none
  | d + 1, j, st => if k ≤ j then none else if r j 0 = 2 then some j else if nx st (r j 2) (r j 1) % 3 = 0 then (if j + 1 < k ∧ r (j + 1) 0 = 2 ∧ r (j + 1) 1 = gt x (nx st (r j 2) (r j 1)) n + 1 ∧ r (j + 1) 2 = nx st (r j 2) (r j 1) % 1000 then rpl r k x n d (j + 2) (nx st (r j 2) (r j 1)) else some (j + 1)) else rpl r k x n d (j + 1) (nx st (r j 2) (r j 1))
def isS (r : Nat → Nat → Nat) (k j q v : Nat) : Int32 := if j < k ∧ r j 0 = 2 ∧ r j 1 = q ∧ r j 2 = v then 1 else 0
end
section
theorem zshl1 {w : Nat} (h : w < 6) : (1 : Int32) <<< (nI w &&& 31) = nI (2 ^ w) := by
  rcases (show w = 0 ∨ w = 1 ∨ w = 2 ∨ w = 3 ∨ w = 4 ∨ w = 5 by omega) with rfl | rfl | rfl | rfl | rfl | rfl <;> decide
theorem zbit (k : Nat) {w : Nat} (h : w < 6) : nI k &&& nI (2 ^ w) = 0 ↔ k.testBit w = false := fa_bit (by omega)
set_option maxRecDepth 100000 in
set_option maxHeartbeats 4000000 in
theorem m_X0_chainAt {G : zG} {N : Nat} {Λ : zLay} {l : Launch} (hO : zOK G l) (z : zM) {b x : Nat} (hM : zMa G N Λ b x) {k : Nat} (hk : z.1 (b + 2) 3 = nI k) (hk2 : k ≤ 40) {i : Nat} (hi : i ≤ k) : zMet G N Λ l yX0_chainAt cX0_chainAt 2 (some .int) 1 [.ref (G.h + b), .int (nI i)] z (some (.int (chv z (b + 2 + 1) i))) z := by
  refine zMet_of hO (by decide) (Nat.le_of_ble_eq_true rfl) ?_
  intro pP eE sS mM bB tT cC ls C hw hl
  have hl : lv_has ls 2 [(0, .ref (G.h + b)), (1, .int (nI i))] := hl
  refine lv_iload_n C.x C.b dX0_chainAt_0 rfl (lv_at hl 1 rfl) ?_
  refine lv_if_ne (tgt := 8) C.x C.b dX0_chainAt_1 (by decide) (fun c_1 => ?_) (fun c_1 => ?_)
  · refine lv_aload_n C.x C.b dX0_chainAt_8 rfl (lv_at hl 0 rfl) ?_
    refine z_get C hw hM.lt (hM.at _ _) flX0_24 rfl dX0_chainAt_9 ?_
    refine lv_iload_n C.x C.b dX0_chainAt_12 rfl (lv_at hl 1 rfl) ?_
    refine lv_iconst (v := 1) C.x C.b dX0_chainAt_13 (by decide) ?_
    refine lv_isub C.x C.b dX0_chainAt_14 ?_
    have h1 := zpos c_1
    refine z_topi (y := nI (i - 1)) (by rw [zlit 1, zsub h1]) ?_
    refine lv_iconst (v := 3) C.x C.b dX0_chainAt_15 (by decide) ?_
    refine z_Vv (As := [.int (nI (i - 1)), .int 3]) (rest := []) C hw hl (m_X1_get hO _ hM.log hk hk2 (r := i - 1) (c := 3) (by omega) (by omega)) ivX0_68 hM.log.lt (hM.log.at _ _) rfl rfl ⟨(Nat.le_of_ble_eq_true rfl), (Nat.le_of_ble_eq_true rfl)⟩ (Nat.le_of_ble_eq_true rfl) ⟨Nat.zero_le _, Nat.zero_le _⟩ dX0_chainAt_16 (fun H locs hw => ?_)
    exact z_iret C hw dX0_chainAt_19 (by rw [chv, if_neg (by omega)]) (rfl)
  · refine lv_iconst (v := 1) C.x C.b dX0_chainAt_4 (by decide) ?_
    refine lv_goto (tgt := 19) C.x C.b dX0_chainAt_5 (by decide) ?_
    exact z_iret C hw dX0_chainAt_19 (by rw [chv, if_pos (zzero (by omega) c_1)]) (rfl)

set_option maxRecDepth 100000 in
set_option maxHeartbeats 4000000 in
theorem m_X0_packedEntry {G : zG} {N : Nat} {Λ : zLay} {l : Launch} (hO : zOK G l) (z : zM) {b x : Nat} (hM : zMa G N Λ b x) {k : Nat} (hk : z.1 (b + 2) 3 = nI k) (hk2 : k ≤ 40) {r : Nat → Nat → Nat} (hR : rRow z (b + 2) k r) (hok : okRow r k) {j : Nat} (hj : j < k) : zMet G N Λ l yX0_packedEntry cX0_packedEntry 2 (some .int) 1 [.ref (G.h + b), .int (nI j)] z (some (.int (nI (pk (r j 0) (r j 1) (r j 2))))) z := by
  refine zMet_of hO (by decide) (Nat.le_of_ble_eq_true rfl) ?_
  intro pP eE sS mM bB tT cC ls C hw hl
  have hl : lv_has ls 2 [(0, .ref (G.h + b)), (1, .int (nI j))] := hl
  refine lv_ldc (v := 100000) C.x C.b C.ow (C.w ctX0_71) dX0_packedEntry_0 ?_
  refine lv_aload_n C.x C.b dX0_packedEntry_2 rfl (lv_at hl 0 rfl) ?_
  refine z_get C hw hM.lt (hM.at _ _) flX0_24 rfl dX0_packedEntry_3 ?_
  refine lv_iload_n C.x C.b dX0_packedEntry_6 rfl (lv_at hl 1 rfl) ?_
  refine lv_iconst (v := 0) C.x C.b dX0_packedEntry_7 (by decide) ?_
  refine z_Vv (As := [.int (nI j), .int 0]) (rest := [.int 100000]) C hw hl (m_X1_get hO _ hM.log hk hk2 (r := j) (c := 0) (hj) (by omega)) ivX0_68 hM.log.lt (hM.log.at _ _) rfl rfl ⟨(Nat.le_of_ble_eq_true rfl), (Nat.le_of_ble_eq_true rfl)⟩ (Nat.le_of_ble_eq_true rfl) ⟨Nat.zero_le _, Nat.zero_le _⟩ dX0_packedEntry_8 (fun H locs hw => ?_)
  refine z_topi (y := nI (r j 0)) ((hR j hj).1) ?_
  refine lv_imul C.x C.b dX0_packedEntry_11 ?_
  refine lv_sipush (v := 10000) C.x C.b dX0_packedEntry_12 (by decide) ?_
  refine lv_aload_n C.x C.b dX0_packedEntry_15 rfl (lv_at hl 0 rfl) ?_
  refine z_get C hw hM.lt (hM.at _ _) flX0_24 rfl dX0_packedEntry_16 ?_
  refine lv_iload_n C.x C.b dX0_packedEntry_19 rfl (lv_at hl 1 rfl) ?_
  refine lv_iconst (v := 1) C.x C.b dX0_packedEntry_20 (by decide) ?_
  refine z_Vv (As := [.int (nI j), .int 1]) (rest := [.int 10000, .int (100000 * (nI (r j 0)))]) C hw hl (m_X1_get hO _ hM.log hk hk2 (r := j) (c := 1) (hj) (by omega)) ivX0_68 hM.log.lt (hM.log.at _ _) rfl rfl ⟨(Nat.le_of_ble_eq_true rfl), (Nat.le_of_ble_eq_true rfl)⟩ (Nat.le_of_ble_eq_true rfl) ⟨Nat.zero_le _, Nat.zero_le _⟩ dX0_packedEntry_21 (fun H locs hw => ?_)
  refine z_topi (y := pI (r j 1)) ((hR j hj).2.1) ?_
  refine lv_iconst (v := 1) C.x C.b dX0_packedEntry_24 (by decide) ?_
  refine lv_iadd C.x C.b dX0_packedEntry_25 ?_
  refine z_topi (y := nI (r j 1)) (pI_1 _) ?_
  refine lv_imul C.x C.b dX0_packedEntry_26 ?_
  refine lv_iadd C.x C.b dX0_packedEntry_27 ?_
  refine lv_aload_n C.x C.b dX0_packedEntry_28 rfl (lv_at hl 0 rfl) ?_
  refine z_get C hw hM.lt (hM.at _ _) flX0_24 rfl dX0_packedEntry_29 ?_
  refine z_pc (pc2 := 32) rfl ?_
  refine lv_iload_n C.x C.b dX0_packedEntry_32 rfl (lv_at hl 1 rfl) ?_
  refine lv_iconst (v := 2) C.x C.b dX0_packedEntry_33 (by decide) ?_
  refine z_Vv (As := [.int (nI j), .int 2]) (rest := [.int ((100000 * (nI (r j 0))) + (10000 * (nI (r j 1))))]) C hw hl (m_X1_get hO _ hM.log hk hk2 (r := j) (c := 2) (hj) (by omega)) ivX0_68 hM.log.lt (hM.log.at _ _) rfl rfl ⟨(Nat.le_of_ble_eq_true rfl), (Nat.le_of_ble_eq_true rfl)⟩ (Nat.le_of_ble_eq_true rfl) ⟨Nat.zero_le _, Nat.zero_le _⟩ dX0_packedEntry_34 (fun H locs hw => ?_)
  refine z_topi (y := nI (r j 2)) ((hR j hj).2.2) ?_
  refine lv_iadd C.x C.b dX0_packedEntry_37 ?_
  refine z_topi (y := nI (pk (r j 0) (r j 1) (r j 2))) (by rw [zlit 100000, zlit 10000, pk_mul, pk_mul, nI_add, nI_add]; rfl) ?_
  exact z_iret C hw dX0_packedEntry_38 (rfl) (rfl)

set_option maxRecDepth 100000 in
set_option maxHeartbeats 4000000 in
theorem m_X0_append {G : zG} {N : Nat} {Λ : zLay} {l : Launch} (hO : zOK G l) (z : zM) {b x : Nat} (hM : zMa G N Λ b x) {k : Nat} (hk : z.1 (b + 2) 3 = nI k) (hk2 : k < 40) {h : Nat} (hh : chv z (b + 2 + 1) k = nI h) (hhl : h < 2147483647) {a q v : Nat} (ha : a ≤ 2) (hq : q ≤ 6) (hv : v < 1000) : zMet G N Λ l yX0_append cX0_append 5 none 2 [.ref (G.h + b), .int (nI a), .int (pI q), .int (nI v)] z none (lapp z (b + 2) k a q v h) := by
  refine zMet_of hO (by decide) (Nat.le_of_ble_eq_true rfl) ?_
  intro pP eE sS mM bB tT cC ls C hw hl
  have hl : lv_has ls 5 [(0, .ref (G.h + b)), (1, .int (nI a)), (2, .int (pI q)), (3, .int (nI v))] := hl
  refine lv_aload_n C.x C.b dX0_append_0 rfl (lv_at hl 0 rfl) ?_
  refine z_get C hw hM.lt (hM.at _ _) flX0_24 rfl dX0_append_1 ?_
  refine z_Vv (As := []) (rest := []) C hw hl (m_X1_addRow hO _ hM.log hk (Nat.le_of_lt hk2) hk2) ivX0_72 hM.log.lt (hM.log.at _ _) rfl rfl ⟨(Nat.le_of_ble_eq_true rfl), (Nat.le_of_ble_eq_true rfl)⟩ (Nat.le_of_ble_eq_true rfl) ⟨Nat.zero_le _, Nat.zero_le _⟩ dX0_append_4 (fun H locs hw => ?_)
  obtain ⟨z_1, ez_1⟩ : ∃ q_9, q_9 = zi z (b + 2) 3 (nI (k + 1)) := ⟨_, rfl⟩
  have hw : zS G N Λ z_1 sS H locs := by rw [ez_1]; exact hw
  refine lv_istore (lv' := [(4, .int (nI k)), (0, .ref (G.h + b)), (1, .int (nI a)), (2, .int (pI q)), (3, .int (nI v))]) C.x C.b dX0_append_7 hl (by decide) rfl (fun ls hl => ?_)
  refine lv_aload_n C.x C.b dX0_append_9 rfl (lv_at hl 1 rfl) ?_
  refine z_get C hw hM.lt (hM.at _ _) flX0_24 rfl dX0_append_10 ?_
  refine lv_iload C.x C.b dX0_append_13 (lv_at hl 0 rfl) ?_
  refine lv_iconst (v := 0) C.x C.b dX0_append_15 (by decide) ?_
  refine lv_iload_n C.x C.b dX0_append_16 rfl (lv_at hl 2 rfl) ?_
  have hk_1 : z_1.1 (b + 2) 3 = nI (k + 1) := by rw [ez_1, zi_at, if_pos ⟨rfl, rfl⟩]
  refine z_V0 (As := [.int (nI k), .int 0, .int (nI a)]) (rest := []) C hw hl (m_X1_set hO _ hM.log hk_1 (by omega) (r := k) (c := 0) (by omega) (by omega)) ivX0_76 hM.log.lt (hM.log.at _ _) rfl rfl ⟨(Nat.le_of_ble_eq_true rfl), (Nat.le_of_ble_eq_true rfl)⟩ (Nat.le_of_ble_eq_true rfl) ⟨Nat.zero_le _, Nat.zero_le _⟩ dX0_append_17 (fun H locs hw => ?_)
  obtain ⟨z_2, ez_2⟩ : ∃ q_9, q_9 = zi z_1 (b + 2 + 1) (k * 4 + 0) (nI a) := ⟨_, rfl⟩
  have hw : zS G N Λ z_2 sS H locs := by rw [ez_2]; exact hw
  refine lv_aload_n C.x C.b dX0_append_20 rfl (lv_at hl 1 rfl) ?_
  refine z_get C hw hM.lt (hM.at _ _) flX0_24 rfl dX0_append_21 ?_
  refine lv_iload C.x C.b dX0_append_24 (lv_at hl 0 rfl) ?_
  refine lv_iconst (v := 1) C.x C.b dX0_append_26 (by decide) ?_
  refine lv_iload_n C.x C.b dX0_append_27 rfl (lv_at hl 3 rfl) ?_
  have hk_2 : z_2.1 (b + 2) 3 = nI (k + 1) := by rw [ez_2, zi_at, if_neg (by omega), hk_1]
  refine z_V0 (As := [.int (nI k), .int 1, .int (pI q)]) (rest := []) C hw hl (m_X1_set hO _ hM.log hk_2 (by omega) (r := k) (c := 1) (by omega) (by omega)) ivX0_76 hM.log.lt (hM.log.at _ _) rfl rfl ⟨(Nat.le_of_ble_eq_true rfl), (Nat.le_of_ble_eq_true rfl)⟩ (Nat.le_of_ble_eq_true rfl) ⟨Nat.zero_le _, Nat.zero_le _⟩ dX0_append_28 (fun H locs hw => ?_)
  obtain ⟨z_3, ez_3⟩ : ∃ q_9, q_9 = zi z_2 (b + 2 + 1) (k * 4 + 1) (pI q) := ⟨_, rfl⟩
  have hw : zS G N Λ z_3 sS H locs := by rw [ez_3]; exact hw
  refine lv_aload_n C.x C.b dX0_append_31 rfl (lv_at hl 1 rfl) ?_
  refine z_get C hw hM.lt (hM.at _ _) flX0_24 rfl dX0_append_32 ?_
  refine lv_iload C.x C.b dX0_append_35 (lv_at hl 0 rfl) ?_
  refine z_pc (pc2 := 37) rfl ?_
  refine lv_iconst (v := 2) C.x C.b dX0_append_37 (by decide) ?_
  refine lv_iload_n C.x C.b dX0_append_38 rfl (lv_at hl 4 rfl) ?_
  have hk_3 : z_3.1 (b + 2) 3 = nI (k + 1) := by rw [ez_3, zi_at, if_neg (by omega), hk_2]
  refine z_V0 (As := [.int (nI k), .int 2, .int (nI v)]) (rest := []) C hw hl (m_X1_set hO _ hM.log hk_3 (by omega) (r := k) (c := 2) (by omega) (by omega)) ivX0_76 hM.log.lt (hM.log.at _ _) rfl rfl ⟨(Nat.le_of_ble_eq_true rfl), (Nat.le_of_ble_eq_true rfl)⟩ (Nat.le_of_ble_eq_true rfl) ⟨Nat.zero_le _, Nat.zero_le _⟩ dX0_append_39 (fun H locs hw => ?_)
  obtain ⟨z_4, ez_4⟩ : ∃ q_9, q_9 = zi z_3 (b + 2 + 1) (k * 4 + 2) (nI v) := ⟨_, rfl⟩
  have hw : zS G N Λ z_4 sS H locs := by rw [ez_4]; exact hw
  refine lv_aload_n C.x C.b dX0_append_42 rfl (lv_at hl 1 rfl) ?_
  refine z_get C hw hM.lt (hM.at _ _) flX0_24 rfl dX0_append_43 ?_
  refine lv_iload C.x C.b dX0_append_46 (lv_at hl 0 rfl) ?_
  refine lv_iconst (v := 3) C.x C.b dX0_append_48 (by decide) ?_
  refine lv_aload_n C.x C.b dX0_append_49 rfl (lv_at hl 1 rfl) ?_
  refine lv_iload C.x C.b dX0_append_50 (lv_at hl 0 rfl) ?_
  have hk_4 : z_4.1 (b + 2) 3 = nI (k + 1) := by rw [ez_4, zi_at, if_neg (by omega), hk_3]
  refine z_Vv (As := [.int (nI k)]) (rest := [.int 3, .int (nI k), .ref (G.h + (b + 2))]) C hw hl (m_X0_chainAt hO _ hM hk_4 (by omega) (i := k) (by omega)) ivX0_80 hM.lt (hM.at _ _) rfl rfl ⟨(Nat.le_of_ble_eq_true rfl), (Nat.le_of_ble_eq_true rfl)⟩ (Nat.le_of_ble_eq_true rfl) ⟨Nat.zero_le _, Nat.zero_le _⟩ dX0_append_52 (fun H locs hw => ?_)
  refine z_topi (y := nI h) (by
      rw [← hh]
      unfold chv
      by_cases h0 : k = 0
      · rw [if_pos h0, if_pos h0]
      · rw [if_neg h0, if_neg h0, ez_4, zi_at, if_neg (by omega), ez_3, zi_at, if_neg (by omega), ez_2, zi_at, if_neg (by omega), ez_1, zi_at, if_neg (by omega)]) ?_
  refine lv_iload_n C.x C.b dX0_append_55 rfl (lv_at hl 2 rfl) ?_
  refine lv_iload_n C.x C.b dX0_append_56 rfl (lv_at hl 3 rfl) ?_
  refine lv_iload_n C.x C.b dX0_append_57 rfl (lv_at hl 4 rfl) ?_
  refine z_Nv (As := [.int (nI h), .int (nI a), .int (pI q), .int (nI v)]) (rest := [.int 3, .int (nI k), .ref (G.h + (b + 2))]) C hw hl (m_X3_nextChain hO _ hhl ha hq hv) ivX0_84 rfl rfl ⟨(Nat.le_of_ble_eq_true rfl), (Nat.le_of_ble_eq_true rfl)⟩ (Nat.le_of_ble_eq_true rfl) ⟨Nat.zero_le _, Nat.zero_le _⟩ dX0_append_58 (fun H locs hw => ?_)
  refine z_V0 (As := [.int (nI k), .int 3, .int (nI (nc h a q v))]) (rest := []) C hw hl (m_X1_set hO _ hM.log hk_4 (by omega) (r := k) (c := 3) (by omega) (by omega)) ivX0_76 hM.log.lt (hM.log.at _ _) rfl rfl ⟨(Nat.le_of_ble_eq_true rfl), (Nat.le_of_ble_eq_true rfl)⟩ (Nat.le_of_ble_eq_true rfl) ⟨Nat.zero_le _, Nat.zero_le _⟩ dX0_append_61 (fun H locs hw => ?_)
  obtain ⟨z_5, ez_5⟩ : ∃ q_9, q_9 = zi z_4 (b + 2 + 1) (k * 4 + 3) (nI (nc h a q v)) := ⟨_, rfl⟩
  have hw : zS G N Λ z_5 sS H locs := by rw [ez_5]; exact hw
  exact z_vret C hw dX0_append_64 (rfl) (by rw [ez_5, ez_4, ez_3, ez_2, ez_1]; rfl)

set_option maxRecDepth 100000 in
set_option maxHeartbeats 4000000 in
theorem m_X0_rechain {G : zG} {N : Nat} {Λ : zLay} {l : Launch} (hO : zOK G l) (z : zM) {b x : Nat} (hM : zMa G N Λ b x) {k : Nat} (hk : z.1 (b + 2) 3 = nI k) (hk2 : k ≤ 40) {r : Nat → Nat → Nat} (hR : rRow z (b + 2) k r) (hok : okRow r k) {e : Nat} (hek : e ≤ k) (hc : ∀ j, j < e → z.1 (b + 2 + 1) (j * 4 + 3) = nI (CH r (j + 1))) : zMet G N Λ l yX0_rechain cX0_rechain 4 none 2 [.ref (G.h + b), .int (nI e)] z none (rchz z (b + 2 + 1) r e k) := by
  refine zMet_of hO (by decide) (Nat.le_of_ble_eq_true rfl) ?_
  intro pP eE sS mM bB tT cC ls C hw hl
  have hl : lv_has ls 4 [(0, .ref (G.h + b)), (1, .int (nI e))] := hl
  refine lv_iload_n C.x C.b dX0_rechain_0 rfl (lv_at hl 1 rfl) ?_
  refine lv_istore_n (lv' := [(2, .int (nI e)), (0, .ref (G.h + b)), (1, .int (nI e))]) C.x C.b dX0_rechain_1 rfl hl (by decide) rfl (fun ls hl => ?_)
  have loop : ∀ (d : Nat) (j : Nat) (H : Heap) (locs : List Loc) (ls : Array Slot) (hj : j + d = k) (he : e ≤ j), zS G N Λ (rchz z (b + 2 + 1) r e j) sS H locs → lv_has ls 4 [(0, .ref (G.h + b)), (2, .int (nI j))] → W pP l eE (zR 2) sS mM ([.ref (G.h + b), .int (nI e)] : List Value).toArray bB tT cC H locs 0 0 (MQ bB (zQc G N Λ none (rchz z (b + 2 + 1) r e k)) ([.ref (G.h + b), .int (nI e)] : List Value).toArray sS 0 0 (zA G)) (F0 mM 2 ls []) := by
    intro d
    induction d with
    | zero =>
      intro j H locs ls hj he hw hl
      refine lv_iload_n C.x C.b dX0_rechain_2 rfl (lv_at hl 1 rfl) ?_
      have hkj : (rchz z (b + 2 + 1) r e j).1 (b + 2) 3 = nI k := by rw [rchz_n _ _ _ _ (by omega)]; exact hk
      refine lv_aload_n C.x C.b dX0_rechain_3 rfl (lv_at hl 0 rfl) ?_
      refine z_get C hw hM.lt (hM.at _ _) flX0_24 rfl dX0_rechain_4 ?_
      refine z_get C hw hM.log.lt (hM.log.at _ _) flX0_65 rfl dX0_rechain_7 ?_
      refine lv_icmp_ge (tgt := 65) C.x C.b dX0_rechain_10 (by decide) (fun c_10 => ?_) (fun c_10 => absurd (by rw [hkj]; exact zle (by omega) (by omega)) c_10)
      exact z_vret C hw dX0_rechain_65 (rfl) (by
        have h9 : j = k := by omega
        rw [h9])
    | succ d ih =>
      intro j H locs ls hj he hw hl
      refine lv_iload_n C.x C.b dX0_rechain_2 rfl (lv_at hl 1 rfl) ?_
      have hkj : (rchz z (b + 2 + 1) r e j).1 (b + 2) 3 = nI k := by rw [rchz_n _ _ _ _ (by omega)]; exact hk
      refine lv_aload_n C.x C.b dX0_rechain_3 rfl (lv_at hl 0 rfl) ?_
      refine z_get C hw hM.lt (hM.at _ _) flX0_24 rfl dX0_rechain_4 ?_
      refine z_get C hw hM.log.lt (hM.log.at _ _) flX0_65 rfl dX0_rechain_7 ?_
      refine lv_icmp_ge (tgt := 65) C.x C.b dX0_rechain_10 (by decide) (fun c_10 => absurd c_10 (by rw [hkj]; exact znle (by omega) (by omega))) (fun c_10 => ?_)
      refine lv_aload_n C.x C.b dX0_rechain_13 rfl (lv_at hl 0 rfl) ?_
      refine lv_iload_n C.x C.b dX0_rechain_14 rfl (lv_at hl 1 rfl) ?_
      refine z_Vv (As := [.int (nI j)]) (rest := []) C hw hl (m_X0_chainAt hO _ hM hkj hk2 (i := j) (by omega)) ivX0_80 hM.lt (hM.at _ _) rfl rfl ⟨(Nat.le_of_ble_eq_true rfl), (Nat.le_of_ble_eq_true rfl)⟩ (Nat.le_of_ble_eq_true rfl) ⟨Nat.zero_le _, Nat.zero_le _⟩ dX0_rechain_15 (fun H locs hw => ?_)
      refine z_topi (y := nI (CH r j)) (rchz_chv hc j) ?_
      refine lv_aload_n C.x C.b dX0_rechain_18 rfl (lv_at hl 0 rfl) ?_
      refine z_get C hw hM.lt (hM.at _ _) flX0_24 rfl dX0_rechain_19 ?_
      refine lv_iload_n C.x C.b dX0_rechain_22 rfl (lv_at hl 1 rfl) ?_
      refine lv_iconst (v := 0) C.x C.b dX0_rechain_23 (by decide) ?_
      refine z_Vv (As := [.int (nI j), .int 0]) (rest := [.int (nI (CH r j))]) C hw hl (m_X1_get hO _ hM.log hkj hk2 (r := j) (c := 0) (by omega) (by omega)) ivX0_68 hM.log.lt (hM.log.at _ _) rfl rfl ⟨(Nat.le_of_ble_eq_true rfl), (Nat.le_of_ble_eq_true rfl)⟩ (Nat.le_of_ble_eq_true rfl) ⟨Nat.zero_le _, Nat.zero_le _⟩ dX0_rechain_24 (fun H locs hw => ?_)
      refine z_topi (y := nI (r j 0)) (((rchz_row hR e j) j (by omega)).1) ?_
      refine lv_aload_n C.x C.b dX0_rechain_27 rfl (lv_at hl 0 rfl) ?_
      refine z_get C hw hM.lt (hM.at _ _) flX0_24 rfl dX0_rechain_28 ?_
      refine lv_iload_n C.x C.b dX0_rechain_31 rfl (lv_at hl 1 rfl) ?_
      refine lv_iconst (v := 1) C.x C.b dX0_rechain_32 (by decide) ?_
      refine z_Vv (As := [.int (nI j), .int 1]) (rest := [.int (nI (r j 0)), .int (nI (CH r j))]) C hw hl (m_X1_get hO _ hM.log hkj hk2 (r := j) (c := 1) (by omega) (by omega)) ivX0_68 hM.log.lt (hM.log.at _ _) rfl rfl ⟨(Nat.le_of_ble_eq_true rfl), (Nat.le_of_ble_eq_true rfl)⟩ (Nat.le_of_ble_eq_true rfl) ⟨Nat.zero_le _, Nat.zero_le _⟩ dX0_rechain_33 (fun H locs hw => ?_)
      refine z_topi (y := pI (r j 1)) (((rchz_row hR e j) j (by omega)).2.1) ?_
      refine lv_aload_n C.x C.b dX0_rechain_36 rfl (lv_at hl 0 rfl) ?_
      refine z_pc (pc2 := 37) rfl ?_
      refine z_get C hw hM.lt (hM.at _ _) flX0_24 rfl dX0_rechain_37 ?_
      refine lv_iload_n C.x C.b dX0_rechain_40 rfl (lv_at hl 1 rfl) ?_
      refine lv_iconst (v := 2) C.x C.b dX0_rechain_41 (by decide) ?_
      refine z_Vv (As := [.int (nI j), .int 2]) (rest := [.int (pI (r j 1)), .int (nI (r j 0)), .int (nI (CH r j))]) C hw hl (m_X1_get hO _ hM.log hkj hk2 (r := j) (c := 2) (by omega) (by omega)) ivX0_68 hM.log.lt (hM.log.at _ _) rfl rfl ⟨(Nat.le_of_ble_eq_true rfl), (Nat.le_of_ble_eq_true rfl)⟩ (Nat.le_of_ble_eq_true rfl) ⟨Nat.zero_le _, Nat.zero_le _⟩ dX0_rechain_42 (fun H locs hw => ?_)
      refine z_topi (y := nI (r j 2)) (((rchz_row hR e j) j (by omega)).2.2) ?_
      have hjk := hok j (by omega)
      refine z_Nv (As := [.int (nI (CH r j)), .int (nI (r j 0)), .int (pI (r j 1)), .int (nI (r j 2))]) (rest := []) C hw hl (m_X3_nextChain hO _ (CH_lt r j) hjk.1 hjk.2.1 hjk.2.2) ivX0_84 rfl rfl ⟨(Nat.le_of_ble_eq_true rfl), (Nat.le_of_ble_eq_true rfl)⟩ (Nat.le_of_ble_eq_true rfl) ⟨Nat.zero_le _, Nat.zero_le _⟩ dX0_rechain_45 (fun H locs hw => ?_)
      refine lv_istore_n (lv' := [(3, .int (nI (nc (CH r j) (r j 0) (r j 1) (r j 2)))), (0, .ref (G.h + b)), (2, .int (nI j))]) C.x C.b dX0_rechain_48 rfl hl (by decide) rfl (fun ls hl => ?_)
      refine lv_aload_n C.x C.b dX0_rechain_49 rfl (lv_at hl 1 rfl) ?_
      refine z_get C hw hM.lt (hM.at _ _) flX0_24 rfl dX0_rechain_50 ?_
      refine lv_iload_n C.x C.b dX0_rechain_53 rfl (lv_at hl 2 rfl) ?_
      refine lv_iconst (v := 3) C.x C.b dX0_rechain_54 (by decide) ?_
      refine lv_iload_n C.x C.b dX0_rechain_55 rfl (lv_at hl 0 rfl) ?_
      refine z_V0 (As := [.int (nI j), .int 3, .int (nI (nc (CH r j) (r j 0) (r j 1) (r j 2)))]) (rest := []) C hw hl (m_X1_set hO _ hM.log hkj hk2 (r := j) (c := 3) (by omega) (by omega)) ivX0_76 hM.log.lt (hM.log.at _ _) rfl rfl ⟨(Nat.le_of_ble_eq_true rfl), (Nat.le_of_ble_eq_true rfl)⟩ (Nat.le_of_ble_eq_true rfl) ⟨Nat.zero_le _, Nat.zero_le _⟩ dX0_rechain_56 (fun H locs hw => ?_)
      obtain ⟨z_1, ez_1⟩ : ∃ q_9, q_9 = zi (rchz z (b + 2 + 1) r e j) (b + 2 + 1) (j * 4 + 3) (nI (nc (CH r j) (r j 0) (r j 1) (r j 2))) := ⟨_, rfl⟩
      have hw : zS G N Λ z_1 sS H locs := by rw [ez_1]; exact hw
      refine lv_iinc (v := nI j + 1) (lv' := [(2, .int (nI j + 1)), (3, .int (nI (nc (CH r j) (r j 0) (r j 1) (r j 2)))), (0, .ref (G.h + b))]) C.x C.b dX0_rechain_59 hl (k := 2) rfl rfl (by decide) rfl (fun ls hl => ?_)
      have hl : lv_has ls 4 [(2, .int (nI (j + 1))), (3, .int (nI (nc (CH r j) (r j 0) (r j 1) (r j 2)))), (0, .ref (G.h + b))] := by
        have e9 : nI j + 1 = nI (j + 1) := nI_1 j
        rw [← e9]; exact hl
      have h_ch : nI (nc (CH r j) (r j 0) (r j 1) (r j 2)) = nI (CH r (j + 1)) := rfl
      refine lv_goto (tgt := 2) C.x C.b dX0_rechain_62 (by decide) ?_
      exact ih (j + 1) _ _ _ (by omega) (by omega) (by rw [← rchz_step z _ r he, ← h_ch, ← ez_1]; exact hw) (lv_sub hl [2, 0] rfl)
  exact loop (k - e) e _ _ _ (by omega) (Nat.le_refl e) (by rw [rchz_0]; exact hw) (lv_sub hl [1, 0] rfl)

set_option maxRecDepth 100000 in
set_option maxHeartbeats 4000000 in
theorem m_X0_hold {G : zG} {N : Nat} {Λ : zLay} {l : Launch} (hO : zOK G l) (z : zM) {b x : Nat} (hM : zMa G N Λ b x) {k : Nat} (hk : z.1 (b + 4) 3 = nI k) (hk2 : k < 60) {mm ee ch : Int32} : zMet G N Λ l yX0_hold cX0_hold 5 none 2 [.ref (G.h + b), .int mm, .int ee, .int ch] z none (hld z (b + 4) k mm ee ch) := by
  refine zMet_of hO (by decide) (Nat.le_of_ble_eq_true rfl) ?_
  intro pP eE sS mM bB tT cC ls C hw hl
  have hl : lv_has ls 5 [(0, .ref (G.h + b)), (1, .int mm), (2, .int ee), (3, .int ch)] := hl
  refine lv_aload_n C.x C.b dX0_hold_0 rfl (lv_at hl 0 rfl) ?_
  refine z_get C hw hM.lt (hM.at _ _) flX0_28 rfl dX0_hold_1 ?_
  refine z_get C hw hM.held.lt (hM.held.at _ _) flX0_65 rfl dX0_hold_4 ?_
  refine lv_bipush (v := 60) C.x C.b dX0_hold_7 (by decide) ?_
  refine lv_icmp_lt (tgt := 19) C.x C.b dX0_hold_9 (by decide) (fun c_9 => ?_) (fun c_9 => absurd (by rw [hk]; exact zlt (b := 60) (by omega) hk2) c_9)
  refine lv_aload_n C.x C.b dX0_hold_19 rfl (lv_at hl 0 rfl) ?_
  refine z_get C hw hM.lt (hM.at _ _) flX0_28 rfl dX0_hold_20 ?_
  refine z_Vv (As := []) (rest := []) C hw hl (m_X1_addRow hO _ hM.held hk (by omega) hk2) ivX0_72 hM.held.lt (hM.held.at _ _) rfl rfl ⟨(Nat.le_of_ble_eq_true rfl), (Nat.le_of_ble_eq_true rfl)⟩ (Nat.le_of_ble_eq_true rfl) ⟨Nat.zero_le _, Nat.zero_le _⟩ dX0_hold_23 (fun H locs hw => ?_)
  obtain ⟨z_1, ez_1⟩ : ∃ q_9, q_9 = zi z (b + 4) 3 (nI (k + 1)) := ⟨_, rfl⟩
  have hw : zS G N Λ z_1 sS H locs := by rw [ez_1]; exact hw
  refine lv_istore (lv' := [(4, .int (nI k)), (0, .ref (G.h + b)), (1, .int mm), (2, .int ee), (3, .int ch)]) C.x C.b dX0_hold_26 hl (by decide) rfl (fun ls hl => ?_)
  refine lv_aload_n C.x C.b dX0_hold_28 rfl (lv_at hl 1 rfl) ?_
  refine z_get C hw hM.lt (hM.at _ _) flX0_28 rfl dX0_hold_29 ?_
  refine lv_iload C.x C.b dX0_hold_32 (lv_at hl 0 rfl) ?_
  refine lv_iconst (v := 0) C.x C.b dX0_hold_34 (by decide) ?_
  refine lv_iload_n C.x C.b dX0_hold_35 rfl (lv_at hl 2 rfl) ?_
  have hk_1 : z_1.1 (b + 4) 3 = nI (k + 1) := by rw [ez_1, zi_at, if_pos ⟨rfl, rfl⟩]
  refine z_V0 (As := [.int (nI k), .int 0, .int mm]) (rest := []) C hw hl (m_X1_set hO _ hM.held hk_1 (by omega) (r := k) (c := 0) (by omega) (by omega)) ivX0_76 hM.held.lt (hM.held.at _ _) rfl rfl ⟨(Nat.le_of_ble_eq_true rfl), (Nat.le_of_ble_eq_true rfl)⟩ (Nat.le_of_ble_eq_true rfl) ⟨Nat.zero_le _, Nat.zero_le _⟩ dX0_hold_36 (fun H locs hw => ?_)
  obtain ⟨z_2, ez_2⟩ : ∃ q_9, q_9 = zi z_1 (b + 4 + 1) (k * 3 + 0) (mm) := ⟨_, rfl⟩
  have hw : zS G N Λ z_2 sS H locs := by rw [ez_2]; exact hw
  refine lv_aload_n C.x C.b dX0_hold_39 rfl (lv_at hl 1 rfl) ?_
  refine z_get C hw hM.lt (hM.at _ _) flX0_28 rfl dX0_hold_40 ?_
  refine lv_iload C.x C.b dX0_hold_43 (lv_at hl 0 rfl) ?_
  refine lv_iconst (v := 1) C.x C.b dX0_hold_45 (by decide) ?_
  refine z_pc (pc2 := 46) rfl ?_
  refine lv_iload_n C.x C.b dX0_hold_46 rfl (lv_at hl 3 rfl) ?_
  have hk_2 : z_2.1 (b + 4) 3 = nI (k + 1) := by rw [ez_2, zi_at, if_neg (by omega), hk_1]
  refine z_V0 (As := [.int (nI k), .int 1, .int ee]) (rest := []) C hw hl (m_X1_set hO _ hM.held hk_2 (by omega) (r := k) (c := 1) (by omega) (by omega)) ivX0_76 hM.held.lt (hM.held.at _ _) rfl rfl ⟨(Nat.le_of_ble_eq_true rfl), (Nat.le_of_ble_eq_true rfl)⟩ (Nat.le_of_ble_eq_true rfl) ⟨Nat.zero_le _, Nat.zero_le _⟩ dX0_hold_47 (fun H locs hw => ?_)
  obtain ⟨z_3, ez_3⟩ : ∃ q_9, q_9 = zi z_2 (b + 4 + 1) (k * 3 + 1) (ee) := ⟨_, rfl⟩
  have hw : zS G N Λ z_3 sS H locs := by rw [ez_3]; exact hw
  refine lv_aload_n C.x C.b dX0_hold_50 rfl (lv_at hl 1 rfl) ?_
  refine z_get C hw hM.lt (hM.at _ _) flX0_28 rfl dX0_hold_51 ?_
  refine lv_iload C.x C.b dX0_hold_54 (lv_at hl 0 rfl) ?_
  refine lv_iconst (v := 2) C.x C.b dX0_hold_56 (by decide) ?_
  refine lv_iload_n C.x C.b dX0_hold_57 rfl (lv_at hl 4 rfl) ?_
  have hk_3 : z_3.1 (b + 4) 3 = nI (k + 1) := by rw [ez_3, zi_at, if_neg (by omega), hk_2]
  refine z_V0 (As := [.int (nI k), .int 2, .int ch]) (rest := []) C hw hl (m_X1_set hO _ hM.held hk_3 (by omega) (r := k) (c := 2) (by omega) (by omega)) ivX0_76 hM.held.lt (hM.held.at _ _) rfl rfl ⟨(Nat.le_of_ble_eq_true rfl), (Nat.le_of_ble_eq_true rfl)⟩ (Nat.le_of_ble_eq_true rfl) ⟨Nat.zero_le _, Nat.zero_le _⟩ dX0_hold_58 (fun H locs hw => ?_)
  obtain ⟨z_4, ez_4⟩ : ∃ q_9, q_9 = zi z_3 (b + 4 + 1) (k * 3 + 2) (ch) := ⟨_, rfl⟩
  have hw : zS G N Λ z_4 sS H locs := by rw [ez_4]; exact hw
  exact z_vret C hw dX0_hold_61 (rfl) (by rw [ez_4, ez_3, ez_2, ez_1]; rfl)

set_option maxRecDepth 100000 in
set_option maxHeartbeats 4000000 in
theorem m_X0_hold_full {G : zG} {N : Nat} {Λ : zLay} {l : Launch} (hO : zOK G l) (z : zM) {b x : Nat} (hM : zMa G N Λ b x) (hk : z.1 (b + 4) 3 = nI 60) {mm ee ch : Int32} : zMet G N Λ l yX0_hold cX0_hold 5 none 2 [.ref (G.h + b), .int mm, .int ee, .int ch] z none (hld (rmv z (b + 4) 3 60) (b + 4) 59 mm ee ch) := by
  refine zMet_of hO (by decide) (Nat.le_of_ble_eq_true rfl) ?_
  intro pP eE sS mM bB tT cC ls C hw hl
  have hl : lv_has ls 5 [(0, .ref (G.h + b)), (1, .int mm), (2, .int ee), (3, .int ch)] := hl
  refine lv_aload_n C.x C.b dX0_hold_0 rfl (lv_at hl 0 rfl) ?_
  refine z_get C hw hM.lt (hM.at _ _) flX0_28 rfl dX0_hold_1 ?_
  refine z_get C hw hM.held.lt (hM.held.at _ _) flX0_65 rfl dX0_hold_4 ?_
  refine lv_bipush (v := 60) C.x C.b dX0_hold_7 (by decide) ?_
  refine lv_icmp_lt (tgt := 19) C.x C.b dX0_hold_9 (by decide) (fun c_9 => absurd c_9 (by rw [hk]; exact znlt (b := 60) (by omega) (by omega))) (fun c_9 => ?_)
  refine lv_aload_n C.x C.b dX0_hold_12 rfl (lv_at hl 0 rfl) ?_
  refine z_get C hw hM.lt (hM.at _ _) flX0_28 rfl dX0_hold_13 ?_
  refine z_V0 (As := []) (rest := []) C hw hl (m_X1_removeFirst hO _ hM.held hk (by omega) (by omega)) ivX0_88 hM.held.lt (hM.held.at _ _) rfl rfl ⟨(Nat.le_of_ble_eq_true rfl), (Nat.le_of_ble_eq_true rfl)⟩ (Nat.le_of_ble_eq_true rfl) ⟨Nat.zero_le _, Nat.zero_le _⟩ dX0_hold_16 (fun H locs hw => ?_)
  obtain ⟨z_1, ez_1⟩ : ∃ q_9, q_9 = rmv z (b + 4) 3 60 := ⟨_, rfl⟩
  have hw : zS G N Λ z_1 sS H locs := by rw [ez_1]; exact hw
  refine lv_aload_n C.x C.b dX0_hold_19 rfl (lv_at hl 0 rfl) ?_
  refine z_get C hw hM.lt (hM.at _ _) flX0_28 rfl dX0_hold_20 ?_
  have hk_1 : z_1.1 (b + 4) 3 = nI 59 := by rw [ez_1, rmv, zr_n _ _ (by omega), zi_at, if_pos ⟨rfl, rfl⟩]
  refine z_Vv (As := []) (rest := []) C hw hl (m_X1_addRow hO _ hM.held hk_1 (by omega) (by omega)) ivX0_72 hM.held.lt (hM.held.at _ _) rfl rfl ⟨(Nat.le_of_ble_eq_true rfl), (Nat.le_of_ble_eq_true rfl)⟩ (Nat.le_of_ble_eq_true rfl) ⟨Nat.zero_le _, Nat.zero_le _⟩ dX0_hold_23 (fun H locs hw => ?_)
  obtain ⟨z_2, ez_2⟩ : ∃ q_9, q_9 = zi z_1 (b + 4) 3 (nI (59 + 1)) := ⟨_, rfl⟩
  have hw : zS G N Λ z_2 sS H locs := by rw [ez_2]; exact hw
  refine lv_istore (lv' := [(4, .int (nI 59)), (0, .ref (G.h + b)), (1, .int mm), (2, .int ee), (3, .int ch)]) C.x C.b dX0_hold_26 hl (by decide) rfl (fun ls hl => ?_)
  refine lv_aload_n C.x C.b dX0_hold_28 rfl (lv_at hl 1 rfl) ?_
  refine z_get C hw hM.lt (hM.at _ _) flX0_28 rfl dX0_hold_29 ?_
  refine lv_iload C.x C.b dX0_hold_32 (lv_at hl 0 rfl) ?_
  refine lv_iconst (v := 0) C.x C.b dX0_hold_34 (by decide) ?_
  refine lv_iload_n C.x C.b dX0_hold_35 rfl (lv_at hl 2 rfl) ?_
  have hk_2 : z_2.1 (b + 4) 3 = nI (59 + 1) := by rw [ez_2, zi_at, if_pos ⟨rfl, rfl⟩]
  refine z_V0 (As := [.int (nI 59), .int 0, .int mm]) (rest := []) C hw hl (m_X1_set hO _ hM.held hk_2 (by omega) (r := 59) (c := 0) (by omega) (by omega)) ivX0_76 hM.held.lt (hM.held.at _ _) rfl rfl ⟨(Nat.le_of_ble_eq_true rfl), (Nat.le_of_ble_eq_true rfl)⟩ (Nat.le_of_ble_eq_true rfl) ⟨Nat.zero_le _, Nat.zero_le _⟩ dX0_hold_36 (fun H locs hw => ?_)
  obtain ⟨z_3, ez_3⟩ : ∃ q_9, q_9 = zi z_2 (b + 4 + 1) (59 * 3 + 0) (mm) := ⟨_, rfl⟩
  have hw : zS G N Λ z_3 sS H locs := by rw [ez_3]; exact hw
  refine lv_aload_n C.x C.b dX0_hold_39 rfl (lv_at hl 1 rfl) ?_
  refine z_pc (pc2 := 40) rfl ?_
  refine z_get C hw hM.lt (hM.at _ _) flX0_28 rfl dX0_hold_40 ?_
  refine lv_iload C.x C.b dX0_hold_43 (lv_at hl 0 rfl) ?_
  refine lv_iconst (v := 1) C.x C.b dX0_hold_45 (by decide) ?_
  refine lv_iload_n C.x C.b dX0_hold_46 rfl (lv_at hl 3 rfl) ?_
  have hk_3 : z_3.1 (b + 4) 3 = nI (59 + 1) := by rw [ez_3, zi_at, if_neg (by omega), hk_2]
  refine z_V0 (As := [.int (nI 59), .int 1, .int ee]) (rest := []) C hw hl (m_X1_set hO _ hM.held hk_3 (by omega) (r := 59) (c := 1) (by omega) (by omega)) ivX0_76 hM.held.lt (hM.held.at _ _) rfl rfl ⟨(Nat.le_of_ble_eq_true rfl), (Nat.le_of_ble_eq_true rfl)⟩ (Nat.le_of_ble_eq_true rfl) ⟨Nat.zero_le _, Nat.zero_le _⟩ dX0_hold_47 (fun H locs hw => ?_)
  obtain ⟨z_4, ez_4⟩ : ∃ q_9, q_9 = zi z_3 (b + 4 + 1) (59 * 3 + 1) (ee) := ⟨_, rfl⟩
  have hw : zS G N Λ z_4 sS H locs := by rw [ez_4]; exact hw
  refine lv_aload_n C.x C.b dX0_hold_50 rfl (lv_at hl 1 rfl) ?_
  refine z_get C hw hM.lt (hM.at _ _) flX0_28 rfl dX0_hold_51 ?_
  refine lv_iload C.x C.b dX0_hold_54 (lv_at hl 0 rfl) ?_
  refine lv_iconst (v := 2) C.x C.b dX0_hold_56 (by decide) ?_
  refine lv_iload_n C.x C.b dX0_hold_57 rfl (lv_at hl 4 rfl) ?_
  have hk_4 : z_4.1 (b + 4) 3 = nI (59 + 1) := by rw [ez_4, zi_at, if_neg (by omega), hk_3]
  refine z_V0 (As := [.int (nI 59), .int 2, .int ch]) (rest := []) C hw hl (m_X1_set hO _ hM.held hk_4 (by omega) (r := 59) (c := 2) (by omega) (by omega)) ivX0_76 hM.held.lt (hM.held.at _ _) rfl rfl ⟨(Nat.le_of_ble_eq_true rfl), (Nat.le_of_ble_eq_true rfl)⟩ (Nat.le_of_ble_eq_true rfl) ⟨Nat.zero_le _, Nat.zero_le _⟩ dX0_hold_58 (fun H locs hw => ?_)
  obtain ⟨z_5, ez_5⟩ : ∃ q_9, q_9 = zi z_4 (b + 4 + 1) (59 * 3 + 2) (ch) := ⟨_, rfl⟩
  have hw : zS G N Λ z_5 sS H locs := by rw [ez_5]; exact hw
  exact z_vret C hw dX0_hold_61 (rfl) (by rw [ez_5, ez_4, ez_3, ez_2, ez_1]; rfl)

set_option maxRecDepth 100000 in
set_option maxHeartbeats 4000000 in
theorem m_X0_hasRoom {G : zG} {N : Nat} {Λ : zLay} {l : Launch} (hO : zOK G l) (z : zM) {b x : Nat} (hM : zMa G N Λ b x) {k : Nat} (hk : z.1 (b + 2) 3 = nI k) (hk2 : k ≤ 40) {q : Nat} (hq : q < 2 ^ 31) : zMet G N Λ l yX0_hasRoom cX0_hasRoom 2 (some .boolean) 0 [.ref (G.h + b), .int (nI q)] z (some (.int (if k ≤ 38 ∧ q ≤ 39 then 1 else 0))) z := by
  refine zMet_of hO (by decide) (Nat.le_of_ble_eq_true rfl) ?_
  intro pP eE sS mM bB tT cC ls C hw hl
  have hl : lv_has ls 2 [(0, .ref (G.h + b)), (1, .int (nI q))] := hl
  refine lv_aload_n C.x C.b dX0_hasRoom_0 rfl (lv_at hl 0 rfl) ?_
  refine z_get C hw hM.lt (hM.at _ _) flX0_24 rfl dX0_hasRoom_1 ?_
  refine z_get C hw hM.log.lt (hM.log.at _ _) flX0_65 rfl dX0_hasRoom_4 ?_
  refine lv_bipush (v := 38) C.x C.b dX0_hasRoom_7 (by decide) ?_
  refine lv_icmp_gt (tgt := 22) C.x C.b dX0_hasRoom_9 (by decide) (fun c_9 => ?_) (fun c_9 => ?_)
  · refine lv_iconst (v := 0) C.x C.b dX0_hasRoom_22 (by decide) ?_
    exact z_zret C hw dX0_hasRoom_23 (by decide) (by rw [if_neg (fun h => absurd c_9 (by rw [hk]; exact znlt (a := 38) (by omega) h.1))]) (rfl)
  · refine lv_iload_n C.x C.b dX0_hasRoom_12 rfl (lv_at hl 1 rfl) ?_
    refine lv_bipush (v := 39) C.x C.b dX0_hasRoom_13 (by decide) ?_
    refine lv_icmp_gt (tgt := 22) C.x C.b dX0_hasRoom_15 (by decide) (fun c_15 => ?_) (fun c_15 => ?_)
    · refine lv_iconst (v := 0) C.x C.b dX0_hasRoom_22 (by decide) ?_
      exact z_zret C hw dX0_hasRoom_23 (by decide) (by rw [if_neg (fun h => absurd c_15 (znlt (a := 39) (by omega) h.2))]) (rfl)
    · refine lv_iconst (v := 1) C.x C.b dX0_hasRoom_18 (by decide) ?_
      refine lv_goto (tgt := 23) C.x C.b dX0_hasRoom_19 (by decide) ?_
      exact z_zret C hw dX0_hasRoom_23 (by decide) (by rw [if_pos ⟨Nat.le_of_not_lt (fun h => c_9 (by rw [hk]; exact zlt (a := 38) (by omega) h)), Nat.le_of_not_lt (fun h => c_15 (zlt (a := 39) (by omega) h))⟩]) (rfl)

set_option maxRecDepth 100000 in
set_option maxHeartbeats 4000000 in
theorem m_X0_hasWitness {G : zG} {N : Nat} {Λ : zLay} {l : Launch} (hO : zOK G l) (z : zM) {b x : Nat} (hM : zMa G N Λ b x) {k w : Nat} (hk : z.1 b 4 = nI k) (hw6 : w < 6) : zMet G N Λ l yX0_hasWitness cX0_hasWitness 2 (some .boolean) 0 [.ref (G.h + b), .int (nI w)] z (some (.int (if k.testBit w then 1 else 0))) z := by
  refine zMet_of hO (by decide) (Nat.le_of_ble_eq_true rfl) ?_
  intro pP eE sS mM bB tT cC ls C hw hl
  have hl : lv_has ls 2 [(0, .ref (G.h + b)), (1, .int (nI w))] := hl
  refine lv_aload_n C.x C.b dX0_hasWitness_0 rfl (lv_at hl 0 rfl) ?_
  refine z_get C hw hM.lt (hM.at _ _) flX0_48 rfl dX0_hasWitness_1 ?_
  refine lv_iconst (v := 1) C.x C.b dX0_hasWitness_4 (by decide) ?_
  refine lv_iload_n C.x C.b dX0_hasWitness_5 rfl (lv_at hl 1 rfl) ?_
  refine lv_ishl C.x C.b dX0_hasWitness_6 ?_
  refine z_topi (y := nI (2 ^ w)) (zshl1 hw6) ?_
  refine lv_iand C.x C.b dX0_hasWitness_7 ?_
  refine lv_if_eq (tgt := 15) C.x C.b dX0_hasWitness_8 (by decide) (fun c_8 => ?_) (fun c_8 => ?_)
  · refine lv_iconst (v := 0) C.x C.b dX0_hasWitness_15 (by decide) ?_
    exact z_zret C hw dX0_hasWitness_16 (by decide) (by rw [if_neg (by rw [(zbit k hw6).mp (by rw [hk] at c_8; exact c_8)]; decide)]) (rfl)
  · refine lv_iconst (v := 1) C.x C.b dX0_hasWitness_11 (by decide) ?_
    refine lv_goto (tgt := 16) C.x C.b dX0_hasWitness_12 (by decide) ?_
    exact z_zret C hw dX0_hasWitness_16 (by decide) (by rw [if_pos (by cases hb : k.testBit w with | true => rfl | false => exact absurd ((zbit k hw6).mpr hb) (by rw [hk] at c_8; exact c_8))]) (rfl)
end
section
theorem hasO_0 {m : Nat} (h : hasO m = 0) : ¬ m % 3 = 0 := fun q => by rw [hasO, if_pos q] at h; exact absurd h (by decide)
theorem hasO_n {m : Nat} (h : ¬ hasO m = 0) : m % 3 = 0 := by
  by_cases q : m % 3 = 0
  · exact q
  · rw [hasO, if_neg q] at h; exact absurd rfl h
theorem isS_0 {r : Nat → Nat → Nat} {k j q v : Nat} (h : isS r k j q v = 0) : ¬ (j < k ∧ r j 0 = 2 ∧ r j 1 = q ∧ r j 2 = v) := fun w => by rw [isS, if_pos w] at h; exact absurd h (by decide)
theorem isS_n {r : Nat → Nat → Nat} {k j q v : Nat} (h : ¬ isS r k j q v = 0) : j < k ∧ r j 0 = 2 ∧ r j 1 = q ∧ r j 2 = v := by
  by_cases w : j < k ∧ r j 0 = 2 ∧ r j 1 = q ∧ r j 2 = v
  · exact w
  · rw [isS, if_neg w] at h; exact absurd rfl h
/-- the first j numbers of row c are 0 -/
def vz (z : zM) (c j : Nat) : zM := zr z c (fun i => if i < j then 0 else z.1 c i)
theorem vz_0 (z : zM) (c : Nat) : vz z c 0 = z := by
  refine Prod.ext (funext fun a => ?_) rfl
  by_cases h : a = c
  · subst h; rw [vz, zr_s]; funext i; rw [if_neg (by omega)]
  · rw [vz, zr_n _ _ h]
theorem vz_at (z : zM) (c j i : Nat) : (vz z c j).1 c i = if i < j then 0 else z.1 c i := by rw [vz, zr_s]
theorem vz_n (z : zM) {c a : Nat} (j : Nat) (h : a ≠ c) : (vz z c j).1 a = z.1 a := zr_n _ _ h
theorem vz_step (z : zM) (c j : Nat) : zi (vz z c j) c j 0 = vz z c (j + 1) := by
  refine Prod.ext (funext fun a => funext fun i => ?_) rfl
  rw [zi_at]
  by_cases ha : a = c
  · subst ha
    rw [vz_at, vz_at]
    by_cases hi : i = j
    · subst hi; rw [if_pos ⟨rfl, rfl⟩, if_pos (by omega)]
    · rw [if_neg (fun q => hi q.2)]
      by_cases hq : i < j
      · rw [if_pos hq, if_pos (by omega)]
      · rw [if_neg hq, if_neg (by omega)]
  · rw [if_neg (fun q => ha q.1), vz_n _ _ ha, vz_n _ _ ha]
def stz0 (z : zM) (b x n : Nat) : zM := zi (zi (zi (zi z b 1 (nI x)) b 2 0) b 3 0) b 4 (othI x n)
def stz (z : zM) (b x n : Nat) : zM := zi (zi (zi (vz (stz0 z b x n) (b + 1) 6) (b + 2) 3 0) (b + 4) 3 0) (b + 6) 3 0
def cpr (z : zM) (t o w k : Nat) : zM := zr (zi z t 3 (nI k)) (t + 1) (va_cpy ((zi z t 3 (nI k)).1 (o + 1)) (z.1 (t + 1)) 0 0 (k * w))
def cpm4 (z : zM) (b b2 s1 s2 : Nat) : zM := zi (zi (zi (zi z b 1 (z.1 b2 1)) b 2 (nI s1)) b 3 (nI s2)) b 4 (z.1 b2 4)
def cpm5 (z : zM) (b b2 s1 s2 : Nat) : zM := zr (cpm4 z b b2 s1 s2) (b + 1) (va_cpy ((cpm4 z b b2 s1 s2).1 (b2 + 1)) ((cpm4 z b b2 s1 s2).1 (b + 1)) 0 0 6)
def cpm (z : zM) (b b2 s1 s2 k1 k2 k3 : Nat) : zM := cpr (cpr (cpr (cpm5 z b b2 s1 s2) (b + 2) (b2 + 2) 4 k1) (b + 4) (b2 + 4) 3 k2) (b + 6) (b2 + 6) 5 k3
theorem cpm4_n (z : zM) {b b2 i : Nat} (s1 s2 : Nat) (h : i ≠ b) : (cpm4 z b b2 s1 s2).1 i = z.1 i := by
  funext j
  simp only [cpm4, zi_at]
  rw [if_neg (by omega), if_neg (by omega), if_neg (by omega), if_neg (by omega)]
theorem cpm5_n (z : zM) {b b2 i : Nat} (s1 s2 : Nat) (h : i ≠ b) (h1 : i ≠ b + 1) : (cpm5 z b b2 s1 s2).1 i = z.1 i := by rw [cpm5, zr_n _ _ h1, cpm4_n _ _ _ h]
theorem cpr_n (z : zM) {t i : Nat} (o w k : Nat) (h : i ≠ t) (h1 : i ≠ t + 1) : (cpr z t o w k).1 i = z.1 i := by
  rw [cpr, zr_n _ _ h1]
  funext j
  rw [zi_at, if_neg (by omega)]
/-- row k of table t becomes row r of table o, as far as column c -/
def acz (z : zM) (t o w k r c : Nat) : zM := zr z (t + 1) (fun i => if k * w ≤ i ∧ i < k * w + c then z.1 (o + 1) (r * w + (i - k * w)) else z.1 (t + 1) i)
theorem acz_0 (z : zM) (t o w k r : Nat) : acz z t o w k r 0 = z := by
  refine Prod.ext (funext fun a => ?_) rfl
  by_cases h : a = t + 1
  · subst h; rw [acz, zr_s]; funext i; rw [if_neg (by omega)]
  · rw [acz, zr_n _ _ h]
theorem acz_at (z : zM) (t o w k r c i : Nat) : (acz z t o w k r c).1 (t + 1) i = if k * w ≤ i ∧ i < k * w + c then z.1 (o + 1) (r * w + (i - k * w)) else z.1 (t + 1) i := by rw [acz, zr_s]
theorem acz_n (z : zM) {t i : Nat} (o w k r c : Nat) (h : i ≠ t + 1) : (acz z t o w k r c).1 i = z.1 i := zr_n _ _ h
theorem acz_step (z : zM) {t o : Nat} (w k r c : Nat) (h : o ≠ t) : zi (acz z t o w k r c) (t + 1) (k * w + c) ((acz z t o w k r c).1 (o + 1) (r * w + c)) = acz z t o w k r (c + 1) := by
  refine Prod.ext (funext fun a => funext fun i => ?_) rfl
  rw [zi_at, acz_n _ _ _ _ _ _ (by omega : o + 1 ≠ t + 1)]
  by_cases ha : a = t + 1
  · subst ha
    rw [acz_at, acz_at]
    by_cases hi : i = k * w + c
    · subst hi
      rw [if_pos ⟨rfl, rfl⟩, if_pos (by omega), Nat.add_sub_cancel_left]
    · rw [if_neg (fun q => hi q.2)]
      by_cases hq : k * w ≤ i ∧ i < k * w + c
      · rw [if_pos hq, if_pos (by omega)]
      · rw [if_neg hq, if_neg (by omega)]
  · rw [if_neg (fun q => ha q.1), acz_n _ _ _ _ _ _ ha, acz_n _ _ _ _ _ _ ha]
set_option maxRecDepth 100000 in
set_option maxHeartbeats 4000000 in
theorem m_X0_isSend {G : zG} {N : Nat} {Λ : zLay} {l : Launch} (hO : zOK G l) (z : zM) {b x : Nat} (hM : zMa G N Λ b x) {k : Nat} (hk : z.1 (b + 2) 3 = nI k) (hk2 : k ≤ 40) {r : Nat → Nat → Nat} (hR : rRow z (b + 2) k r) (hok : okRow r k) {j q v : Nat} (hj : j < 1000) (hq : q ≤ 6) (hv : v < 1000) : zMet G N Λ l yX0_isSend cX0_isSend 4 (some .boolean) 1 [.ref (G.h + b), .int (nI j), .int (pI q), .int (nI v)] z (some (.int (isS r k j q v))) z := by
  refine zMet_of hO (by decide) (Nat.le_of_ble_eq_true rfl) ?_
  intro pP eE sS mM bB tT cC ls C hw hl
  have hl : lv_has ls 4 [(0, .ref (G.h + b)), (1, .int (nI j)), (2, .int (pI q)), (3, .int (nI v))] := hl
  refine lv_iload_n C.x C.b dX0_isSend_0 rfl (lv_at hl 1 rfl) ?_
  refine lv_aload_n C.x C.b dX0_isSend_1 rfl (lv_at hl 0 rfl) ?_
  refine z_get C hw hM.lt (hM.at _ _) flX0_24 rfl dX0_isSend_2 ?_
  refine z_get C hw hM.log.lt (hM.log.at _ _) flX0_65 rfl dX0_isSend_5 ?_
  refine lv_icmp_ge (tgt := 54) C.x C.b dX0_isSend_8 (by decide) (fun c_8 => ?_) (fun c_8 => ?_)
  · refine lv_iconst (v := 0) C.x C.b dX0_isSend_54 (by decide) ?_
    exact z_zret C hw dX0_isSend_55 (by decide) (by rw [isS, if_neg (fun h => absurd c_8 (by rw [hk]; exact znle (by omega) h.1))]) (rfl)
  · have hjk : j < k := Nat.lt_of_not_le (fun h => c_8 (by rw [hk]; exact zle (by omega) h))
    have hok1 := hok j hjk
    refine lv_aload_n C.x C.b dX0_isSend_11 rfl (lv_at hl 0 rfl) ?_
    refine z_get C hw hM.lt (hM.at _ _) flX0_24 rfl dX0_isSend_12 ?_
    refine lv_iload_n C.x C.b dX0_isSend_15 rfl (lv_at hl 1 rfl) ?_
    refine lv_iconst (v := 0) C.x C.b dX0_isSend_16 (by decide) ?_
    refine z_Vv (As := [.int (nI j), .int 0]) (rest := []) C hw hl (m_X1_get hO _ hM.log hk hk2 (r := j) (c := 0) (hjk) (by omega)) ivX0_68 hM.log.lt (hM.log.at _ _) rfl rfl ⟨(Nat.le_of_ble_eq_true rfl), (Nat.le_of_ble_eq_true rfl)⟩ (Nat.le_of_ble_eq_true rfl) ⟨Nat.zero_le _, Nat.zero_le _⟩ dX0_isSend_17 (fun H locs hw => ?_)
    refine z_topi (y := nI (r j 0)) ((hR j hjk).1) ?_
    refine lv_iconst (v := 2) C.x C.b dX0_isSend_20 (by decide) ?_
    refine lv_icmp_ne (tgt := 54) C.x C.b dX0_isSend_21 (by decide) (fun c_21 => ?_) (fun c_21 => ?_)
    · refine lv_iconst (v := 0) C.x C.b dX0_isSend_54 (by decide) ?_
      exact z_zret C hw dX0_isSend_55 (by decide) (by rw [isS, if_neg (fun h => c_21 (by rw [h.2.1]; rfl))]) (rfl)
    · refine lv_aload_n C.x C.b dX0_isSend_24 rfl (lv_at hl 0 rfl) ?_
      refine z_get C hw hM.lt (hM.at _ _) flX0_24 rfl dX0_isSend_25 ?_
      refine lv_iload_n C.x C.b dX0_isSend_28 rfl (lv_at hl 1 rfl) ?_
      refine lv_iconst (v := 1) C.x C.b dX0_isSend_29 (by decide) ?_
      refine z_Vv (As := [.int (nI j), .int 1]) (rest := []) C hw hl (m_X1_get hO _ hM.log hk hk2 (r := j) (c := 1) (hjk) (by omega)) ivX0_68 hM.log.lt (hM.log.at _ _) rfl rfl ⟨(Nat.le_of_ble_eq_true rfl), (Nat.le_of_ble_eq_true rfl)⟩ (Nat.le_of_ble_eq_true rfl) ⟨Nat.zero_le _, Nat.zero_le _⟩ dX0_isSend_30 (fun H locs hw => ?_)
      refine z_topi (y := pI (r j 1)) ((hR j hjk).2.1) ?_
      refine lv_iload_n C.x C.b dX0_isSend_33 rfl (lv_at hl 2 rfl) ?_
      refine lv_icmp_ne (tgt := 54) C.x C.b dX0_isSend_34 (by decide) (fun c_34 => ?_) (fun c_34 => ?_)
      · refine z_pc (pc2 := 54) rfl ?_
        refine lv_iconst (v := 0) C.x C.b dX0_isSend_54 (by decide) ?_
        exact z_zret C hw dX0_isSend_55 (by decide) (by rw [isS, if_neg (fun h => c_34 (by rw [h.2.2.1]))]) (rfl)
      · refine z_pc (pc2 := 37) rfl ?_
        refine lv_aload_n C.x C.b dX0_isSend_37 rfl (lv_at hl 0 rfl) ?_
        refine z_get C hw hM.lt (hM.at _ _) flX0_24 rfl dX0_isSend_38 ?_
        refine lv_iload_n C.x C.b dX0_isSend_41 rfl (lv_at hl 1 rfl) ?_
        refine lv_iconst (v := 2) C.x C.b dX0_isSend_42 (by decide) ?_
        refine z_Vv (As := [.int (nI j), .int 2]) (rest := []) C hw hl (m_X1_get hO _ hM.log hk hk2 (r := j) (c := 2) (hjk) (by omega)) ivX0_68 hM.log.lt (hM.log.at _ _) rfl rfl ⟨(Nat.le_of_ble_eq_true rfl), (Nat.le_of_ble_eq_true rfl)⟩ (Nat.le_of_ble_eq_true rfl) ⟨Nat.zero_le _, Nat.zero_le _⟩ dX0_isSend_43 (fun H locs hw => ?_)
        refine z_topi (y := nI (r j 2)) ((hR j hjk).2.2) ?_
        refine lv_iload_n C.x C.b dX0_isSend_46 rfl (lv_at hl 3 rfl) ?_
        refine lv_icmp_ne (tgt := 54) C.x C.b dX0_isSend_47 (by decide) (fun c_47 => ?_) (fun c_47 => ?_)
        · refine lv_iconst (v := 0) C.x C.b dX0_isSend_54 (by decide) ?_
          exact z_zret C hw dX0_isSend_55 (by decide) (by rw [isS, if_neg (fun h => c_47 (by rw [h.2.2.2]))]) (rfl)
        · refine lv_iconst (v := 1) C.x C.b dX0_isSend_50 (by decide) ?_
          refine lv_goto (tgt := 55) C.x C.b dX0_isSend_51 (by decide) ?_
          exact z_zret C hw dX0_isSend_55 (by decide) (by rw [isS, if_pos ⟨hjk, (nI_eq (b := 2) (by omega) (by omega)).mp c_21, (pI_eq hok1.2.1 hq).mp c_34, (nI_eq (by omega) (by omega)).mp c_47⟩]) (rfl)

set_option maxRecDepth 100000 in
set_option maxHeartbeats 4000000 in
theorem m_X0_beliedEntryOf {G : zG} {N : Nat} {Λ : zLay} {l : Launch} (hO : zOK G l) (z : zM) {b x b2 x2 : Nat} (hM : zMa G N Λ b x) (hM2 : zMa G N Λ b2 x2) {Hd Lg : aT} (hH : rTb z (b + 4) 3 Hd) (hHk : Hd.1 ≤ 60) (hHo : ∀ j, j < Hd.1 → Hd.2 j 0 < 6 ∧ Hd.2 j 1 < 40 ∧ Hd.2 j 2 < 2147483647) (hL : rLog z (b2 + 2) Lg) (hLk : Lg.1 ≤ 40) : zMet G N Λ l yX0_beliedEntryOf cX0_beliedEntryOf 4 (some .int) 2 [.ref (G.h + b), .ref (G.h + b2)] z (some (.int (oI (bel Hd Lg x2 Hd.1 0)))) z := by
  refine zMet_of hO (by decide) (Nat.le_of_ble_eq_true rfl) ?_
  intro pP eE sS mM bB tT cC ls C hw hl
  have hl : lv_has ls 4 [(0, .ref (G.h + b)), (1, .ref (G.h + b2))] := hl
  refine lv_iconst (v := 0) C.x C.b dX0_beliedEntryOf_0 (by decide) ?_
  refine lv_istore_n (lv' := [(2, .int 0), (0, .ref (G.h + b)), (1, .ref (G.h + b2))]) C.x C.b dX0_beliedEntryOf_1 rfl hl (by decide) rfl (fun ls hl => ?_)
  have loop : ∀ (d : Nat) (j : Nat) (H : Heap) (locs : List Loc) (ls : Array Slot) (hj : j + d = Hd.1) (hb : bel Hd Lg x2 Hd.1 0 = bel Hd Lg x2 d j), zS G N Λ z sS H locs → lv_has ls 4 [(0, .ref (G.h + b)), (1, .ref (G.h + b2)), (2, .int (nI j))] → W pP l eE (zR 2) sS mM ([.ref (G.h + b), .ref (G.h + b2)] : List Value).toArray bB tT cC H locs 0 0 (MQ bB (zQc G N Λ (some (.int (oI (bel Hd Lg x2 Hd.1 0)))) z) ([.ref (G.h + b), .ref (G.h + b2)] : List Value).toArray sS 0 0 (zA G)) (F0 mM 2 ls []) := by
    intro d
    induction d with
    | zero =>
      intro j H locs ls hj hb hw hl
      refine lv_iload_n C.x C.b dX0_beliedEntryOf_2 rfl (lv_at hl 2 rfl) ?_
      refine lv_aload_n C.x C.b dX0_beliedEntryOf_3 rfl (lv_at hl 0 rfl) ?_
      refine z_get C hw hM.lt (hM.at _ _) flX0_28 rfl dX0_beliedEntryOf_4 ?_
      refine z_get C hw hM.held.lt (hM.held.at _ _) flX0_65 rfl dX0_beliedEntryOf_7 ?_
      refine lv_icmp_ge (tgt := 77) C.x C.b dX0_beliedEntryOf_10 (by decide) (fun c_10 => ?_) (fun c_10 => absurd (by rw [hH.1]; exact zle (by omega) (by omega)) c_10)
      refine lv_iconst (v := -1) C.x C.b dX0_beliedEntryOf_77 (by decide) ?_
      exact z_iret C hw dX0_beliedEntryOf_78 (by rw [hb]; rfl) (rfl)
    | succ d ih =>
      intro j H locs ls hj hb hw hl
      refine lv_iload_n C.x C.b dX0_beliedEntryOf_2 rfl (lv_at hl 2 rfl) ?_
      refine lv_aload_n C.x C.b dX0_beliedEntryOf_3 rfl (lv_at hl 0 rfl) ?_
      refine z_get C hw hM.lt (hM.at _ _) flX0_28 rfl dX0_beliedEntryOf_4 ?_
      refine z_get C hw hM.held.lt (hM.held.at _ _) flX0_65 rfl dX0_beliedEntryOf_7 ?_
      refine lv_icmp_ge (tgt := 77) C.x C.b dX0_beliedEntryOf_10 (by decide) (fun c_10 => absurd c_10 (by rw [hH.1]; exact znle (by omega) (by omega))) (fun c_10 => ?_)
      have hjk : j < Hd.1 := by omega
      have ho := hHo j hjk
      refine lv_aload_n C.x C.b dX0_beliedEntryOf_13 rfl (lv_at hl 0 rfl) ?_
      refine z_get C hw hM.lt (hM.at _ _) flX0_28 rfl dX0_beliedEntryOf_14 ?_
      refine lv_iload_n C.x C.b dX0_beliedEntryOf_17 rfl (lv_at hl 2 rfl) ?_
      refine lv_iconst (v := 0) C.x C.b dX0_beliedEntryOf_18 (by decide) ?_
      refine z_Vv (As := [.int (nI j), .int 0]) (rest := []) C hw hl (m_X1_get hO _ hM.held hH.1 hHk (r := j) (c := 0) (hjk) (by omega)) ivX0_68 hM.held.lt (hM.held.at _ _) rfl rfl ⟨(Nat.le_of_ble_eq_true rfl), (Nat.le_of_ble_eq_true rfl)⟩ (Nat.le_of_ble_eq_true rfl) ⟨Nat.zero_le _, Nat.zero_le _⟩ dX0_beliedEntryOf_19 (fun H locs hw => ?_)
      refine z_topi (y := nI (Hd.2 j 0)) (hH.2 j hjk 0 (by omega)) ?_
      refine lv_aload_n C.x C.b dX0_beliedEntryOf_22 rfl (lv_at hl 1 rfl) ?_
      refine z_get C hw hM2.lt (hM2.at _ _) flX0_9 rfl dX0_beliedEntryOf_23 ?_
      refine lv_icmp_ne (tgt := 71) C.x C.b dX0_beliedEntryOf_26 (by decide) (fun c_26 => ?_) (fun c_26 => ?_)
      · refine lv_iinc (v := nI j + 1) (lv' := [(2, .int (nI j + 1)), (0, .ref (G.h + b)), (1, .ref (G.h + b2))]) C.x C.b dX0_beliedEntryOf_71 hl (k := 2) rfl rfl (by decide) rfl (fun ls hl => ?_)
        have hl : lv_has ls 4 [(2, .int (nI (j + 1))), (0, .ref (G.h + b)), (1, .ref (G.h + b2))] := by
          have e9 : nI j + 1 = nI (j + 1) := nI_1 j
          rw [← e9]; exact hl
        refine lv_goto (tgt := 2) C.x C.b dX0_beliedEntryOf_74 (by decide) ?_
        exact ih (j + 1) _ _ _ (by omega) (by rw [hb, bel, if_neg (fun h => c_26 (by rw [h.1]))]) hw (lv_sub hl [1, 2, 0] rfl)
      · refine lv_aload_n C.x C.b dX0_beliedEntryOf_29 rfl (lv_at hl 0 rfl) ?_
        refine z_get C hw hM.lt (hM.at _ _) flX0_28 rfl dX0_beliedEntryOf_30 ?_
        refine lv_iload_n C.x C.b dX0_beliedEntryOf_33 rfl (lv_at hl 2 rfl) ?_
        refine lv_iconst (v := 1) C.x C.b dX0_beliedEntryOf_34 (by decide) ?_
        refine z_Vv (As := [.int (nI j), .int 1]) (rest := []) C hw hl (m_X1_get hO _ hM.held hH.1 hHk (r := j) (c := 1) (hjk) (by omega)) ivX0_68 hM.held.lt (hM.held.at _ _) rfl rfl ⟨(Nat.le_of_ble_eq_true rfl), (Nat.le_of_ble_eq_true rfl)⟩ (Nat.le_of_ble_eq_true rfl) ⟨Nat.zero_le _, Nat.zero_le _⟩ dX0_beliedEntryOf_35 (fun H locs hw => ?_)
        refine z_topi (y := nI (Hd.2 j 1)) (hH.2 j hjk 1 (by omega)) ?_
        refine lv_istore_n (lv' := [(3, .int (nI (Hd.2 j 1))), (0, .ref (G.h + b)), (1, .ref (G.h + b2)), (2, .int (nI j))]) C.x C.b dX0_beliedEntryOf_38 rfl hl (by decide) rfl (fun ls hl => ?_)
        refine z_pc (pc2 := 39) rfl ?_
        refine lv_iload_n C.x C.b dX0_beliedEntryOf_39 rfl (lv_at hl 0 rfl) ?_
        refine lv_aload_n C.x C.b dX0_beliedEntryOf_40 rfl (lv_at hl 2 rfl) ?_
        refine z_get C hw hM2.lt (hM2.at _ _) flX0_24 rfl dX0_beliedEntryOf_41 ?_
        refine z_get C hw hM2.log.lt (hM2.log.at _ _) flX0_65 rfl dX0_beliedEntryOf_44 ?_
        refine lv_icmp_ge (tgt := 69) C.x C.b dX0_beliedEntryOf_47 (by decide) (fun c_47 => ?_) (fun c_47 => ?_)
        · refine lv_iload_n C.x C.b dX0_beliedEntryOf_69 rfl (lv_at hl 0 rfl) ?_
          exact z_iret C hw dX0_beliedEntryOf_70 (by rw [hb, bel, if_pos ⟨(nI_eq (by omega) (by have := hM2.x6; omega)).mp c_26, Or.inl ((nI_leI (by omega) (by omega)).mp (by rw [hL.1] at c_47; exact c_47))⟩]; rfl) (rfl)
        · have hek : Hd.2 j 1 < Lg.1 := Nat.lt_of_not_le (fun h => c_47 (by rw [hL.1]; exact zle (by omega) h))
          refine lv_aload_n C.x C.b dX0_beliedEntryOf_50 rfl (lv_at hl 2 rfl) ?_
          refine lv_iload_n C.x C.b dX0_beliedEntryOf_51 rfl (lv_at hl 0 rfl) ?_
          refine lv_iconst (v := 1) C.x C.b dX0_beliedEntryOf_52 (by decide) ?_
          refine lv_iadd C.x C.b dX0_beliedEntryOf_53 ?_
          refine z_topi (y := nI (Hd.2 j 1 + 1)) (nI_1 _) ?_
          refine z_Vv (As := [.int (nI (Hd.2 j 1 + 1))]) (rest := []) C hw hl (m_X0_chainAt hO _ hM2 hL.1 hLk (i := Hd.2 j 1 + 1) (by omega)) ivX0_80 hM2.lt (hM2.at _ _) rfl rfl ⟨(Nat.le_of_ble_eq_true rfl), (Nat.le_of_ble_eq_true rfl)⟩ (Nat.le_of_ble_eq_true rfl) ⟨Nat.zero_le _, Nat.zero_le _⟩ dX0_beliedEntryOf_54 (fun H locs hw => ?_)
          refine z_topi (y := nI (CH Lg.2 (Hd.2 j 1 + 1))) (chv_log hL (by omega)) ?_
          refine lv_aload_n C.x C.b dX0_beliedEntryOf_57 rfl (lv_at hl 1 rfl) ?_
          refine z_get C hw hM.lt (hM.at _ _) flX0_28 rfl dX0_beliedEntryOf_58 ?_
          refine lv_iload_n C.x C.b dX0_beliedEntryOf_61 rfl (lv_at hl 3 rfl) ?_
          refine lv_iconst (v := 2) C.x C.b dX0_beliedEntryOf_62 (by decide) ?_
          refine z_Vv (As := [.int (nI j), .int 2]) (rest := [.int (nI (CH Lg.2 (Hd.2 j 1 + 1)))]) C hw hl (m_X1_get hO _ hM.held hH.1 hHk (r := j) (c := 2) (hjk) (by omega)) ivX0_68 hM.held.lt (hM.held.at _ _) rfl rfl ⟨(Nat.le_of_ble_eq_true rfl), (Nat.le_of_ble_eq_true rfl)⟩ (Nat.le_of_ble_eq_true rfl) ⟨Nat.zero_le _, Nat.zero_le _⟩ dX0_beliedEntryOf_63 (fun H locs hw => ?_)
          refine z_topi (y := nI (Hd.2 j 2)) (hH.2 j hjk 2 (by omega)) ?_
          refine lv_icmp_eq (tgt := 71) C.x C.b dX0_beliedEntryOf_66 (by decide) (fun c_66 => ?_) (fun c_66 => ?_)
          · refine lv_iinc (v := nI j + 1) (lv' := [(2, .int (nI j + 1)), (3, .int (nI (Hd.2 j 1))), (0, .ref (G.h + b)), (1, .ref (G.h + b2))]) C.x C.b dX0_beliedEntryOf_71 hl (k := 3) rfl rfl (by decide) rfl (fun ls hl => ?_)
            have hl : lv_has ls 4 [(2, .int (nI (j + 1))), (3, .int (nI (Hd.2 j 1))), (0, .ref (G.h + b)), (1, .ref (G.h + b2))] := by
              have e9 : nI j + 1 = nI (j + 1) := nI_1 j
              rw [← e9]; exact hl
            refine lv_goto (tgt := 2) C.x C.b dX0_beliedEntryOf_74 (by decide) ?_
            exact ih (j + 1) _ _ _ (by omega) (by rw [hb, bel, if_neg (fun h => h.2.elim (fun q => absurd hek (by omega)) (fun q => q ((nI_eq (by have := CH_lt Lg.2 (Hd.2 j 1 + 1); omega) (by omega)).mp c_66)))]) hw (lv_sub hl [2, 3, 0] rfl)
          · refine lv_iload_n C.x C.b dX0_beliedEntryOf_69 rfl (lv_at hl 0 rfl) ?_
            exact z_iret C hw dX0_beliedEntryOf_70 (by rw [hb, bel, if_pos ⟨(nI_eq (by omega) (by have := hM2.x6; omega)).mp c_26, Or.inr (fun q => c_66 (by rw [q]))⟩]; rfl) (rfl)
  exact loop Hd.1 0 _ _ _ (by omega) rfl hw (lv_sub hl [1, 2, 0] rfl)

set_option maxRecDepth 100000 in
set_option maxHeartbeats 4000000 in
theorem m_X0_replayFault {G : zG} {N : Nat} {Λ : zLay} {l : Launch} (hO : zOK G l) (z : zM) {b x : Nat} (hM : zMa G N Λ b x) {k : Nat} (hk : z.1 (b + 2) 3 = nI k) (hk2 : k ≤ 40) {r : Nat → Nat → Nat} (hR : rRow z (b + 2) k r) (hok : okRow r k) {n : Nat} (hn : 2 ≤ n) (hn6 : n ≤ 6) (hx : x < n) : zMet G N Λ l yX0_replayFault cX0_replayFault 4 (some .int) 2 [.ref (G.h + b), .int (nI n)] z (some (.int (oI (rpl r k x n (k + 1) 0 x)))) z := by
  refine zMet_of hO (by decide) (Nat.le_of_ble_eq_true rfl) ?_
  intro pP eE sS mM bB tT cC ls C hw hl
  have hl : lv_has ls 4 [(0, .ref (G.h + b)), (1, .int (nI n))] := hl
  refine lv_aload_n C.x C.b dX0_replayFault_0 rfl (lv_at hl 0 rfl) ?_
  refine z_get C hw hM.lt (hM.at _ _) flX0_9 rfl dX0_replayFault_1 ?_
  refine lv_istore_n (lv' := [(2, .int (nI x)), (0, .ref (G.h + b)), (1, .int (nI n))]) C.x C.b dX0_replayFault_4 rfl hl (by decide) rfl (fun ls hl => ?_)
  refine lv_iconst (v := 0) C.x C.b dX0_replayFault_5 (by decide) ?_
  refine lv_istore_n (lv' := [(3, .int 0), (2, .int (nI x)), (0, .ref (G.h + b)), (1, .int (nI n))]) C.x C.b dX0_replayFault_6 rfl hl (by decide) rfl (fun ls hl => ?_)
  have loop : ∀ (d : Nat) (j st : Nat) (H : Heap) (locs : List Loc) (ls : Array Slot) (hj : k < j + d) (hj2 : j ≤ k) (hst : st < 9973) (hb : rpl r k x n (k + 1) 0 x = rpl r k x n d j st), zS G N Λ z sS H locs → lv_has ls 4 [(0, .ref (G.h + b)), (1, .int (nI n)), (2, .int (nI st)), (3, .int (nI j))] → W pP l eE (zR 2) sS mM ([.ref (G.h + b), .int (nI n)] : List Value).toArray bB tT cC H locs 0 0 (MQ bB (zQc G N Λ (some (.int (oI (rpl r k x n (k + 1) 0 x)))) z) ([.ref (G.h + b), .int (nI n)] : List Value).toArray sS 0 0 (zA G)) (F0 mM 7 ls []) := by
    intro d
    induction d with
    | zero =>
      intro j st H locs ls hj hj2 hst hb hw hl
      exact absurd hj2 (by omega)
    | succ d ih =>
      intro j st H locs ls hj hj2 hst hb hw hl
      refine lv_iload_n C.x C.b dX0_replayFault_7 rfl (lv_at hl 3 rfl) ?_
      refine lv_aload_n C.x C.b dX0_replayFault_8 rfl (lv_at hl 0 rfl) ?_
      refine z_get C hw hM.lt (hM.at _ _) flX0_24 rfl dX0_replayFault_9 ?_
      refine z_get C hw hM.log.lt (hM.log.at _ _) flX0_65 rfl dX0_replayFault_12 ?_
      refine lv_icmp_ge (tgt := 95) C.x C.b dX0_replayFault_15 (by decide) (fun c_15 => ?_) (fun c_15 => ?_)
      · refine lv_iconst (v := -1) C.x C.b dX0_replayFault_95 (by decide) ?_
        exact z_iret C hw dX0_replayFault_96 (by rw [hb, rpl, if_pos ((nI_leI (by omega) (by omega)).mp (by rw [hk] at c_15; exact c_15))]; rfl) (rfl)
      · have hjk : j < k := Nat.lt_of_not_le (fun h => c_15 (by rw [hk]; exact zle (by omega) h))
        have hok1 := hok j hjk
        refine lv_aload_n C.x C.b dX0_replayFault_18 rfl (lv_at hl 0 rfl) ?_
        refine z_get C hw hM.lt (hM.at _ _) flX0_24 rfl dX0_replayFault_19 ?_
        refine lv_iload_n C.x C.b dX0_replayFault_22 rfl (lv_at hl 3 rfl) ?_
        refine lv_iconst (v := 0) C.x C.b dX0_replayFault_23 (by decide) ?_
        refine z_Vv (As := [.int (nI j), .int 0]) (rest := []) C hw hl (m_X1_get hO _ hM.log hk hk2 (r := j) (c := 0) (hjk) (by omega)) ivX0_68 hM.log.lt (hM.log.at _ _) rfl rfl ⟨(Nat.le_of_ble_eq_true rfl), (Nat.le_of_ble_eq_true rfl)⟩ (Nat.le_of_ble_eq_true rfl) ⟨Nat.zero_le _, Nat.zero_le _⟩ dX0_replayFault_24 (fun H locs hw => ?_)
        refine z_topi (y := nI (r j 0)) ((hR j hjk).1) ?_
        refine lv_iconst (v := 2) C.x C.b dX0_replayFault_27 (by decide) ?_
        refine lv_icmp_ne (tgt := 33) C.x C.b dX0_replayFault_28 (by decide) (fun c_28 => ?_) (fun c_28 => ?_)
        · refine lv_iload_n C.x C.b dX0_replayFault_33 rfl (lv_at hl 2 rfl) ?_
          refine lv_aload_n C.x C.b dX0_replayFault_34 rfl (lv_at hl 0 rfl) ?_
          refine z_get C hw hM.lt (hM.at _ _) flX0_24 rfl dX0_replayFault_35 ?_
          refine lv_iload_n C.x C.b dX0_replayFault_38 rfl (lv_at hl 3 rfl) ?_
          refine lv_iconst (v := 1) C.x C.b dX0_replayFault_39 (by decide) ?_
          refine z_Vv (As := [.int (nI j), .int 1]) (rest := [.int (nI st)]) C hw hl (m_X1_get hO _ hM.log hk hk2 (r := j) (c := 1) (hjk) (by omega)) ivX0_68 hM.log.lt (hM.log.at _ _) rfl rfl ⟨(Nat.le_of_ble_eq_true rfl), (Nat.le_of_ble_eq_true rfl)⟩ (Nat.le_of_ble_eq_true rfl) ⟨Nat.zero_le _, Nat.zero_le _⟩ dX0_replayFault_40 (fun H locs hw => ?_)
          refine z_topi (y := pI (r j 1)) ((hR j hjk).2.1) ?_
          refine lv_aload_n C.x C.b dX0_replayFault_43 rfl (lv_at hl 0 rfl) ?_
          refine z_pc (pc2 := 44) rfl ?_
          refine z_get C hw hM.lt (hM.at _ _) flX0_24 rfl dX0_replayFault_44 ?_
          refine lv_iload_n C.x C.b dX0_replayFault_47 rfl (lv_at hl 3 rfl) ?_
          refine lv_iconst (v := 2) C.x C.b dX0_replayFault_48 (by decide) ?_
          refine z_Vv (As := [.int (nI j), .int 2]) (rest := [.int (pI (r j 1)), .int (nI st)]) C hw hl (m_X1_get hO _ hM.log hk hk2 (r := j) (c := 2) (hjk) (by omega)) ivX0_68 hM.log.lt (hM.log.at _ _) rfl rfl ⟨(Nat.le_of_ble_eq_true rfl), (Nat.le_of_ble_eq_true rfl)⟩ (Nat.le_of_ble_eq_true rfl) ⟨Nat.zero_le _, Nat.zero_le _⟩ dX0_replayFault_49 (fun H locs hw => ?_)
          refine z_topi (y := nI (r j 2)) ((hR j hjk).2.2) ?_
          refine z_Nv (As := [.int (nI st), .int (pI (r j 1)), .int (nI (r j 2))]) (rest := []) C hw hl (m_X3_nextState hO _ hst hok1.2.2 hok1.2.1) ivX0_91 rfl rfl ⟨(Nat.le_of_ble_eq_true rfl), (Nat.le_of_ble_eq_true rfl)⟩ (Nat.le_of_ble_eq_true rfl) ⟨Nat.zero_le _, Nat.zero_le _⟩ dX0_replayFault_52 (fun H locs hw => ?_)
          refine lv_istore_n (lv' := [(2, .int (nI (nx st (r j 2) (r j 1)))), (0, .ref (G.h + b)), (1, .int (nI n)), (3, .int (nI j))]) C.x C.b dX0_replayFault_55 rfl hl (by decide) rfl (fun ls hl => ?_)
          refine lv_iinc (v := nI j + 1) (lv' := [(3, .int (nI j + 1)), (2, .int (nI (nx st (r j 2) (r j 1)))), (0, .ref (G.h + b)), (1, .int (nI n))]) C.x C.b dX0_replayFault_56 hl (k := 3) rfl rfl (by decide) rfl (fun ls hl => ?_)
          have hl : lv_has ls 4 [(3, .int (nI (j + 1))), (2, .int (nI (nx st (r j 2) (r j 1)))), (0, .ref (G.h + b)), (1, .int (nI n))] := by
            have e9 : nI j + 1 = nI (j + 1) := nI_1 j
            rw [← e9]; exact hl
          refine lv_iload_n C.x C.b dX0_replayFault_59 rfl (lv_at hl 1 rfl) ?_
          refine z_Nv (As := [.int (nI (nx st (r j 2) (r j 1)))]) (rest := []) C hw hl (m_X3_hasOutput hO _ (nx_lt _ _ _)) ivX0_95 rfl rfl ⟨(Nat.le_of_ble_eq_true rfl), (Nat.le_of_ble_eq_true rfl)⟩ (Nat.le_of_ble_eq_true rfl) ⟨Nat.zero_le _, Nat.zero_le _⟩ dX0_replayFault_60 (fun H locs hw => ?_)
          refine lv_if_eq (tgt := 7) C.x C.b dX0_replayFault_63 (by decide) (fun c_63 => ?_) (fun c_63 => ?_)
          · exact ih (j + 1) (nx st (r j 2) (r j 1)) _ _ _ (by omega) (by omega) (nx_lt _ _ _) (by rw [hb, rpl, if_neg (by omega), if_neg (fun h => c_28 (by rw [h]; rfl)), if_neg (hasO_0 c_63)]) hw (lv_sub hl [2, 3, 1, 0] rfl)
          · refine lv_aload_n C.x C.b dX0_replayFault_66 rfl (lv_at hl 2 rfl) ?_
            refine lv_iload_n C.x C.b dX0_replayFault_67 rfl (lv_at hl 0 rfl) ?_
            refine lv_aload_n C.x C.b dX0_replayFault_68 rfl (lv_at hl 2 rfl) ?_
            refine z_get C hw hM.lt (hM.at _ _) flX0_9 rfl dX0_replayFault_69 ?_
            refine lv_iload_n C.x C.b dX0_replayFault_72 rfl (lv_at hl 1 rfl) ?_
            refine lv_iload_n C.x C.b dX0_replayFault_73 rfl (lv_at hl 3 rfl) ?_
            refine z_Nv (As := [.int (nI x), .int (nI (nx st (r j 2) (r j 1))), .int (nI n)]) (rest := [.int (nI (j + 1)), .ref (G.h + b)]) C hw hl (m_X3_outputPeer hO _ (nx_lt _ _ _) hn hn6 hx) ivX0_99 rfl rfl ⟨(Nat.le_of_ble_eq_true rfl), (Nat.le_of_ble_eq_true rfl)⟩ (Nat.le_of_ble_eq_true rfl) ⟨Nat.zero_le _, Nat.zero_le _⟩ dX0_replayFault_74 (fun H locs hw => ?_)
            refine z_topi (y := pI (gt x (nx st (r j 2) (r j 1)) n + 1)) ((pI_s _).symm) ?_
            refine lv_iload_n C.x C.b dX0_replayFault_77 rfl (lv_at hl 1 rfl) ?_
            refine z_Nv (As := [.int (nI (nx st (r j 2) (r j 1)))]) (rest := [.int (pI (gt x (nx st (r j 2) (r j 1)) n + 1)), .int (nI (j + 1)), .ref (G.h + b)]) C hw hl (m_X3_outputValue hO _ (nx_lt _ _ _)) ivX0_102 rfl rfl ⟨(Nat.le_of_ble_eq_true rfl), (Nat.le_of_ble_eq_true rfl)⟩ (Nat.le_of_ble_eq_true rfl) ⟨Nat.zero_le _, Nat.zero_le _⟩ dX0_replayFault_78 (fun H locs hw => ?_)
            refine z_Vv (As := [.int (nI (j + 1)), .int (pI (gt x (nx st (r j 2) (r j 1)) n + 1)), .int (nI (nx st (r j 2) (r j 1) % 1000))]) (rest := []) C hw hl (m_X0_isSend hO _ hM hk hk2 hR hok (j := j + 1) (q := gt x (nx st (r j 2) (r j 1)) n + 1) (v := nx st (r j 2) (r j 1) % 1000) (by omega) (by have := gt_lt (x := x) (m := nx st (r j 2) (r j 1)) hn; omega) (Nat.mod_lt _ (by omega))) ivX0_105 hM.lt (hM.at _ _) rfl rfl ⟨(Nat.le_of_ble_eq_true rfl), (Nat.le_of_ble_eq_true rfl)⟩ (Nat.le_of_ble_eq_true rfl) ⟨Nat.zero_le _, Nat.zero_le _⟩ dX0_replayFault_81 (fun H locs hw => ?_)
            refine z_pc (pc2 := 84) rfl ?_
            refine lv_if_ne (tgt := 89) C.x C.b dX0_replayFault_84 (by decide) (fun c_84 => ?_) (fun c_84 => ?_)
            · refine lv_iinc (v := nI (j + 1) + 1) (lv' := [(3, .int (nI (j + 1) + 1)), (2, .int (nI (nx st (r j 2) (r j 1)))), (0, .ref (G.h + b)), (1, .int (nI n))]) C.x C.b dX0_replayFault_89 hl (k := 0) rfl rfl (by decide) rfl (fun ls hl => ?_)
              have hl : lv_has ls 4 [(3, .int (nI (j + 2))), (2, .int (nI (nx st (r j 2) (r j 1)))), (0, .ref (G.h + b)), (1, .int (nI n))] := by
                have e9 : nI (j + 1) + 1 = nI (j + 2) := nI_1 (j + 1)
                rw [← e9]; exact hl
              refine lv_goto (tgt := 7) C.x C.b dX0_replayFault_92 (by decide) ?_
              exact ih (j + 2) (nx st (r j 2) (r j 1)) _ _ _ (by omega) (by have := (isS_n c_84).1; omega) (nx_lt _ _ _) (by rw [hb, rpl, if_neg (by omega), if_neg (fun h => c_28 (by rw [h]; rfl)), if_pos (hasO_n c_63), if_pos (isS_n c_84)]) hw (lv_sub hl [2, 3, 1, 0] rfl)
            · refine lv_iload_n C.x C.b dX0_replayFault_87 rfl (lv_at hl 0 rfl) ?_
              exact z_iret C hw dX0_replayFault_88 (by rw [hb, rpl, if_neg (by omega), if_neg (fun h => c_28 (by rw [h]; rfl)), if_pos (hasO_n c_63), if_neg (isS_0 c_84)]; rfl) (rfl)
        · refine lv_iload_n C.x C.b dX0_replayFault_31 rfl (lv_at hl 3 rfl) ?_
          exact z_iret C hw dX0_replayFault_32 (by rw [hb, rpl, if_neg (by omega), if_pos ((nI_eq (b := 2) (by omega) (by omega)).mp c_28)]; rfl) (rfl)
  exact loop (k + 1) 0 x _ _ _ (by omega) (by omega) (by have := hM.x6; omega) rfl hw (lv_sub hl [2, 3, 1, 0] rfl)

set_option maxRecDepth 100000 in
set_option maxHeartbeats 4000000 in
theorem m_X0_start {G : zG} {N : Nat} {Λ : zLay} {l : Launch} (hO : zOK G l) (z : zM) {b x : Nat} (hM : zMa G N Λ b x) (hs : rSane z b) {n : Nat} : zMet G N Λ l yX0_start cX0_start 3 none 1 [.ref (G.h + b), .int (nI n)] z none (stz z b x n) := by
  refine zMet_of hO (by decide) (Nat.le_of_ble_eq_true rfl) ?_
  intro pP eE sS mM bB tT cC ls C hw hl
  have hl : lv_has ls 3 [(0, .ref (G.h + b)), (1, .int (nI n))] := hl
  obtain ⟨⟨k1, hk1, e1⟩, ⟨k2, hk2, e2⟩, ⟨k3, hk3, e3⟩⟩ := hs
  refine lv_aload_n C.x C.b dX0_start_0 rfl (lv_at hl 0 rfl) ?_
  refine lv_aload_n C.x C.b dX0_start_1 rfl (lv_at hl 0 rfl) ?_
  refine z_get C hw hM.lt (hM.at _ _) flX0_9 rfl dX0_start_2 ?_
  refine z_put C hw hM.lt (hM.at _ _) ptX0_34 (hM.at _ _) (rfl) (rfl) (Nat.le_of_ble_eq_true rfl) dX0_start_5 (fun H locs hw => ?_)
  obtain ⟨z_1, ez_1⟩ : ∃ q_9, q_9 = zi z b 1 (nI x) := ⟨_, rfl⟩
  have hw : zS G N Λ z_1 sS H locs := by rw [ez_1]; exact hw
  refine lv_aload_n C.x C.b dX0_start_8 rfl (lv_at hl 0 rfl) ?_
  refine lv_iconst (v := 0) C.x C.b dX0_start_9 (by decide) ?_
  refine z_put C hw hM.lt (hM.at _ _) ptX0_37 (hM.at _ _) (rfl) (rfl) (Nat.le_of_ble_eq_true rfl) dX0_start_10 (fun H locs hw => ?_)
  obtain ⟨z_2, ez_2⟩ : ∃ q_9, q_9 = zi z_1 b 2 0 := ⟨_, rfl⟩
  have hw : zS G N Λ z_2 sS H locs := by rw [ez_2]; exact hw
  refine lv_aload_n C.x C.b dX0_start_13 rfl (lv_at hl 0 rfl) ?_
  refine lv_iconst (v := 0) C.x C.b dX0_start_14 (by decide) ?_
  refine z_put C hw hM.lt (hM.at _ _) ptX0_41 (hM.at _ _) (rfl) (rfl) (Nat.le_of_ble_eq_true rfl) dX0_start_15 (fun H locs hw => ?_)
  obtain ⟨z_3, ez_3⟩ : ∃ q_9, q_9 = zi z_2 b 3 0 := ⟨_, rfl⟩
  have hw : zS G N Λ z_3 sS H locs := by rw [ez_3]; exact hw
  refine lv_aload_n C.x C.b dX0_start_18 rfl (lv_at hl 0 rfl) ?_
  refine lv_aload_n C.x C.b dX0_start_19 rfl (lv_at hl 0 rfl) ?_
  refine z_get C hw hM.lt (hM.at _ _) flX0_9 rfl dX0_start_20 ?_
  refine lv_iload_n C.x C.b dX0_start_23 rfl (lv_at hl 1 rfl) ?_
  refine z_Nv (As := [.int (nI x), .int (nI n)]) (rest := [.ref (G.h + b)]) C hw hl (m_X3_othersOf hO _) ivX0_44 rfl rfl ⟨(Nat.le_of_ble_eq_true rfl), (Nat.le_of_ble_eq_true rfl)⟩ (Nat.le_of_ble_eq_true rfl) ⟨Nat.zero_le _, Nat.zero_le _⟩ dX0_start_24 (fun H locs hw => ?_)
  refine z_put C hw hM.lt (hM.at _ _) ptX0_48 (hM.at _ _) (rfl) (rfl) (Nat.le_of_ble_eq_true rfl) dX0_start_27 (fun H locs hw => ?_)
  obtain ⟨z_4, ez_4⟩ : ∃ q_9, q_9 = zi z_3 b 4 (othI x n) := ⟨_, rfl⟩
  have hw : zS G N Λ z_4 sS H locs := by rw [ez_4]; exact hw
  refine lv_iconst (v := 0) C.x C.b dX0_start_30 (by decide) ?_
  refine lv_istore_n (lv' := [(2, .int 0), (0, .ref (G.h + b)), (1, .int (nI n))]) C.x C.b dX0_start_31 rfl hl (by decide) rfl (fun ls hl => ?_)
  have loop : ∀ (d : Nat) (j : Nat) (H : Heap) (locs : List Loc) (ls : Array Slot) (hj : j + d = 6), zS G N Λ (vz z_4 (b + 1) j) sS H locs → lv_has ls 3 [(0, .ref (G.h + b)), (2, .int (nI j))] → W pP l eE (zR 1) sS mM ([.ref (G.h + b), .int (nI n)] : List Value).toArray bB tT cC H locs 0 0 (MQ bB (zQc G N Λ none (stz z b x n)) ([.ref (G.h + b), .int (nI n)] : List Value).toArray sS 0 0 (zA G)) (F0 mM 32 ls []) := by
    intro d
    induction d with
    | zero =>
      intro j H locs ls hj hw hl
      refine lv_iload_n C.x C.b dX0_start_32 rfl (lv_at hl 1 rfl) ?_
      refine lv_bipush (v := 6) C.x C.b dX0_start_33 (by decide) ?_
      refine lv_icmp_ge (tgt := 51) C.x C.b dX0_start_35 (by decide) (fun c_35 => ?_) (fun c_35 => absurd (zle (a := 6) (by omega) (by omega)) c_35)
      refine lv_aload_n C.x C.b dX0_start_51 rfl (lv_at hl 0 rfl) ?_
      refine z_get C hw hM.lt (hM.at _ _) flX0_24 rfl dX0_start_52 ?_
      refine lv_iconst (v := 0) C.x C.b dX0_start_55 (by decide) ?_
      have h6 : j = 6 := by omega
      have hq1 : (vz z_4 (b + 1) j).1 (b + 2) 3 = nI k1 := by rw [vz_n _ _ (by omega), ez_4, zi_at, if_neg (by omega), ez_3, zi_at, if_neg (by omega), ez_2, zi_at, if_neg (by omega), ez_1, zi_at, if_neg (by omega)]; exact e1
      refine z_V0 (As := [.int 0]) (rest := []) C hw hl (m_X1_keep0 hO _ hM.log hq1 hk1) ivX0_51 hM.log.lt (hM.log.at _ _) rfl rfl ⟨(Nat.le_of_ble_eq_true rfl), (Nat.le_of_ble_eq_true rfl)⟩ (Nat.le_of_ble_eq_true rfl) ⟨Nat.zero_le _, Nat.zero_le _⟩ dX0_start_56 (fun H locs hw => ?_)
      obtain ⟨z_5, ez_5⟩ : ∃ q_9, q_9 = zi (vz z_4 (b + 1) j) (b + 2) 3 0 := ⟨_, rfl⟩
      have hw : zS G N Λ z_5 sS H locs := by rw [ez_5]; exact hw
      refine lv_aload_n C.x C.b dX0_start_59 rfl (lv_at hl 0 rfl) ?_
      refine z_get C hw hM.lt (hM.at _ _) flX0_28 rfl dX0_start_60 ?_
      refine lv_iconst (v := 0) C.x C.b dX0_start_63 (by decide) ?_
      have hq2 : z_5.1 (b + 4) 3 = nI k2 := by rw [ez_5, zi_at, if_neg (by omega), vz_n _ _ (by omega), ez_4, zi_at, if_neg (by omega), ez_3, zi_at, if_neg (by omega), ez_2, zi_at, if_neg (by omega), ez_1, zi_at, if_neg (by omega)]; exact e2
      refine z_V0 (As := [.int 0]) (rest := []) C hw hl (m_X1_keep0 hO _ hM.held hq2 hk2) ivX0_51 hM.held.lt (hM.held.at _ _) rfl rfl ⟨(Nat.le_of_ble_eq_true rfl), (Nat.le_of_ble_eq_true rfl)⟩ (Nat.le_of_ble_eq_true rfl) ⟨Nat.zero_le _, Nat.zero_le _⟩ dX0_start_64 (fun H locs hw => ?_)
      obtain ⟨z_6, ez_6⟩ : ∃ q_9, q_9 = zi z_5 (b + 4) 3 0 := ⟨_, rfl⟩
      have hw : zS G N Λ z_6 sS H locs := by rw [ez_6]; exact hw
      refine lv_aload_n C.x C.b dX0_start_67 rfl (lv_at hl 0 rfl) ?_
      refine z_get C hw hM.lt (hM.at _ _) flX0_31 rfl dX0_start_68 ?_
      refine lv_iconst (v := 0) C.x C.b dX0_start_71 (by decide) ?_
      have hq3 : z_6.1 (b + 6) 3 = nI k3 := by rw [ez_6, zi_at, if_neg (by omega), ez_5, zi_at, if_neg (by omega), vz_n _ _ (by omega), ez_4, zi_at, if_neg (by omega), ez_3, zi_at, if_neg (by omega), ez_2, zi_at, if_neg (by omega), ez_1, zi_at, if_neg (by omega)]; exact e3
      refine z_V0 (As := [.int 0]) (rest := []) C hw hl (m_X1_keep0 hO _ hM.pend hq3 hk3) ivX0_51 hM.pend.lt (hM.pend.at _ _) rfl rfl ⟨(Nat.le_of_ble_eq_true rfl), (Nat.le_of_ble_eq_true rfl)⟩ (Nat.le_of_ble_eq_true rfl) ⟨Nat.zero_le _, Nat.zero_le _⟩ dX0_start_72 (fun H locs hw => ?_)
      obtain ⟨z_7, ez_7⟩ : ∃ q_9, q_9 = zi z_6 (b + 6) 3 0 := ⟨_, rfl⟩
      have hw : zS G N Λ z_7 sS H locs := by rw [ez_7]; exact hw
      exact z_vret C hw dX0_start_75 (rfl) (by rw [ez_7, ez_6, ez_5, h6, ez_4, ez_3, ez_2, ez_1]; rfl)
    | succ d ih =>
      intro j H locs ls hj hw hl
      refine lv_iload_n C.x C.b dX0_start_32 rfl (lv_at hl 1 rfl) ?_
      refine lv_bipush (v := 6) C.x C.b dX0_start_33 (by decide) ?_
      refine lv_icmp_ge (tgt := 51) C.x C.b dX0_start_35 (by decide) (fun c_35 => absurd c_35 (znle (b := 6) (by omega) (by omega))) (fun c_35 => ?_)
      refine lv_aload_n C.x C.b dX0_start_38 rfl (lv_at hl 0 rfl) ?_
      refine z_get C hw hM.lt (hM.at _ _) flX0_15 rfl dX0_start_39 ?_
      refine lv_iload_n C.x C.b dX0_start_42 rfl (lv_at hl 1 rfl) ?_
      refine lv_iconst (v := 0) C.x C.b dX0_start_43 (by decide) ?_
      refine z_iast C hw hM.lt1 hM.ver (zvin (by omega) (by omega)) dX0_start_44 (fun H locs hw => ?_)
      obtain ⟨z_8, ez_8⟩ : ∃ q_9, q_9 = zi (vz z_4 (b + 1) j) (b + 1) (nI j).toNatClampNeg 0 := ⟨_, rfl⟩
      have hw : zS G N Λ z_8 sS H locs := by rw [ez_8]; exact hw
      refine lv_iinc (v := nI j + 1) (lv' := [(2, .int (nI j + 1)), (0, .ref (G.h + b))]) C.x C.b dX0_start_45 hl (k := 1) rfl rfl (by decide) rfl (fun ls hl => ?_)
      have hl : lv_has ls 3 [(2, .int (nI (j + 1))), (0, .ref (G.h + b))] := by
        have e9 : nI j + 1 = nI (j + 1) := nI_1 j
        rw [← e9]; exact hl
      refine lv_goto (tgt := 32) C.x C.b dX0_start_48 (by decide) ?_
      exact ih (j + 1) _ _ _ (by omega) (by rw [← vz_step]; rw [ez_8, zcl (n := 6) (by omega) (by omega)] at hw; exact hw) (lv_sub hl [1, 0] rfl)
  exact loop 6 0 _ _ _ (by omega) (by rw [vz_0]; exact hw) (lv_sub hl [1, 0] rfl)

set_option maxRecDepth 100000 in
set_option maxHeartbeats 4000000 in
theorem m_X0_copyMachine {G : zG} {N : Nat} {Λ : zLay} {l : Launch} (hO : zOK G l) (z : zM) {b x b2 x2 : Nat} (hM : zMa G N Λ b x) (hM2 : zMa G N Λ b2 x2) (hne : b + 8 ≤ b2 ∨ b2 + 8 ≤ b) {s1 s2 k1 k2 k3 : Nat} (hs1 : z.1 b2 2 = nI s1) (hs1b : s1 < 2) (hs2 : z.1 b2 3 = nI s2) (hs2b : s2 < 2) (hq1 : z.1 (b2 + 2) 3 = nI k1) (hk1 : k1 ≤ 40) (hq2 : z.1 (b2 + 4) 3 = nI k2) (hk2 : k2 ≤ 60) (hq3 : z.1 (b2 + 6) 3 = nI k3) (hk3 : k3 ≤ 40) : zMet G N Λ l yX0_copyMachine cX0_copyMachine 2 none 2 [.ref (G.h + b), .ref (G.h + b2)] z none (cpm z b b2 s1 s2 k1 k2 k3) := by
  refine zMet_of hO (by decide) (Nat.le_of_ble_eq_true rfl) ?_
  intro pP eE sS mM bB tT cC ls C hw hl
  have hl : lv_has ls 2 [(0, .ref (G.h + b)), (1, .ref (G.h + b2))] := hl
  refine lv_aload_n C.x C.b dX0_copyMachine_0 rfl (lv_at hl 0 rfl) ?_
  refine lv_aload_n C.x C.b dX0_copyMachine_1 rfl (lv_at hl 1 rfl) ?_
  refine z_get C hw hM2.lt (hM2.at _ _) flX0_34 rfl dX0_copyMachine_2 ?_
  refine z_put C hw hM.lt (hM.at _ _) ptX0_34 (hM.at _ _) (rfl) (rfl) (Nat.le_of_ble_eq_true rfl) dX0_copyMachine_5 (fun H locs hw => ?_)
  obtain ⟨z_1, ez_1⟩ : ∃ q_9, q_9 = zi z b 1 (z.1 b2 1) := ⟨_, rfl⟩
  have hw : zS G N Λ z_1 sS H locs := by rw [ez_1]; exact hw
  refine lv_aload_n C.x C.b dX0_copyMachine_8 rfl (lv_at hl 0 rfl) ?_
  refine lv_aload_n C.x C.b dX0_copyMachine_9 rfl (lv_at hl 1 rfl) ?_
  refine z_get C hw hM2.lt (hM2.at _ _) flX0_37 rfl dX0_copyMachine_10 ?_
  refine z_topi (y := nI s1) (by rw [ez_1, zi_at, if_neg (by omega)]; exact hs1) ?_
  refine z_put C hw hM.lt (hM.at _ _) ptX0_37 (hM.at _ _) (zbool hs1b) (zboolf hs1b) (Nat.le_of_ble_eq_true rfl) dX0_copyMachine_13 (fun H locs hw => ?_)
  obtain ⟨z_2, ez_2⟩ : ∃ q_9, q_9 = zi z_1 b 2 (nI s1) := ⟨_, rfl⟩
  have hw : zS G N Λ z_2 sS H locs := by rw [ez_2]; exact hw
  refine lv_aload_n C.x C.b dX0_copyMachine_16 rfl (lv_at hl 0 rfl) ?_
  refine lv_aload_n C.x C.b dX0_copyMachine_17 rfl (lv_at hl 1 rfl) ?_
  refine z_get C hw hM2.lt (hM2.at _ _) flX0_41 rfl dX0_copyMachine_18 ?_
  refine z_topi (y := nI s2) (by rw [ez_2, zi_at, if_neg (by omega), ez_1, zi_at, if_neg (by omega)]; exact hs2) ?_
  refine z_put C hw hM.lt (hM.at _ _) ptX0_41 (hM.at _ _) (zbool hs2b) (zboolf hs2b) (Nat.le_of_ble_eq_true rfl) dX0_copyMachine_21 (fun H locs hw => ?_)
  obtain ⟨z_3, ez_3⟩ : ∃ q_9, q_9 = zi z_2 b 3 (nI s2) := ⟨_, rfl⟩
  have hw : zS G N Λ z_3 sS H locs := by rw [ez_3]; exact hw
  refine lv_aload_n C.x C.b dX0_copyMachine_24 rfl (lv_at hl 0 rfl) ?_
  refine lv_aload_n C.x C.b dX0_copyMachine_25 rfl (lv_at hl 1 rfl) ?_
  refine z_get C hw hM2.lt (hM2.at _ _) flX0_48 rfl dX0_copyMachine_26 ?_
  refine z_topi (y := z.1 b2 4) (by rw [ez_3, zi_at, if_neg (by omega), ez_2, zi_at, if_neg (by omega), ez_1, zi_at, if_neg (by omega)]) ?_
  refine z_put C hw hM.lt (hM.at _ _) ptX0_48 (hM.at _ _) (rfl) (rfl) (Nat.le_of_ble_eq_true rfl) dX0_copyMachine_29 (fun H locs hw => ?_)
  obtain ⟨z_4, ez_4⟩ : ∃ q_9, q_9 = zi z_3 b 4 (z.1 b2 4) := ⟨_, rfl⟩
  have hw : zS G N Λ z_4 sS H locs := by rw [ez_4]; exact hw
  have e4 : z_4 = cpm4 z b b2 s1 s2 := by rw [ez_4, ez_3, ez_2, ez_1]; rfl
  refine lv_aload_n C.x C.b dX0_copyMachine_32 rfl (lv_at hl 1 rfl) ?_
  refine z_get C hw hM2.lt (hM2.at _ _) flX0_15 rfl dX0_copyMachine_33 ?_
  refine lv_iconst (v := 0) C.x C.b dX0_copyMachine_36 (by decide) ?_
  refine z_pc (pc2 := 37) rfl ?_
  refine lv_aload_n C.x C.b dX0_copyMachine_37 rfl (lv_at hl 0 rfl) ?_
  refine z_get C hw hM.lt (hM.at _ _) flX0_15 rfl dX0_copyMachine_38 ?_
  refine lv_iconst (v := 0) C.x C.b dX0_copyMachine_41 (by decide) ?_
  refine lv_bipush (v := 6) C.x C.b dX0_copyMachine_42 (by decide) ?_
  refine z_copy C hw hl hM2.lt1 hM2.ver hM.lt1 hM.ver cpX0_55 (by decide) (by decide) (by decide) (by decide) (by decide) (by decide) (by decide) dX0_copyMachine_44 (fun H locs hw => ?_)
  obtain ⟨z_5, ez_5⟩ : ∃ q_9, q_9 = zr z_4 (b + 1) (va_cpy (z_4.1 (b2 + 1)) (z_4.1 (b + 1)) (0 : Int32).toNatClampNeg (0 : Int32).toNatClampNeg (6 : Int32).toNatClampNeg) := ⟨_, rfl⟩
  have hw : zS G N Λ z_5 sS H locs := by rw [ez_5]; exact hw
  have e5 : z_5 = cpm5 z b b2 s1 s2 := by rw [ez_5, e4]; rfl
  refine lv_aload_n C.x C.b dX0_copyMachine_47 rfl (lv_at hl 0 rfl) ?_
  refine z_get C hw hM.lt (hM.at _ _) flX0_24 rfl dX0_copyMachine_48 ?_
  refine lv_aload_n C.x C.b dX0_copyMachine_51 rfl (lv_at hl 1 rfl) ?_
  refine z_get C hw hM2.lt (hM2.at _ _) flX0_24 rfl dX0_copyMachine_52 ?_
  refine z_V0 (As := [.ref (G.h + (b2 + 2))]) (rest := []) C hw hl (m_X1_copyRows hO _ hM.log hM2.log (k := k1) (by rw [e5, cpm5_n _ _ _ (by omega) (by omega)]; exact hq1) hk1) ivX0_61 hM.log.lt (hM.log.at _ _) rfl rfl ⟨(Nat.le_of_ble_eq_true rfl), (Nat.le_of_ble_eq_true rfl)⟩ (Nat.le_of_ble_eq_true rfl) ⟨Nat.zero_le _, Nat.zero_le _⟩ dX0_copyMachine_55 (fun H locs hw => ?_)
  obtain ⟨z_6, ez_6⟩ : ∃ q_9, q_9 = cpr z_5 (b + 2) (b2 + 2) 4 k1 := ⟨_, rfl⟩
  have hw : zS G N Λ z_6 sS H locs := by rw [ez_6]; exact hw
  refine lv_aload_n C.x C.b dX0_copyMachine_58 rfl (lv_at hl 0 rfl) ?_
  refine z_get C hw hM.lt (hM.at _ _) flX0_28 rfl dX0_copyMachine_59 ?_
  refine lv_aload_n C.x C.b dX0_copyMachine_62 rfl (lv_at hl 1 rfl) ?_
  refine z_get C hw hM2.lt (hM2.at _ _) flX0_28 rfl dX0_copyMachine_63 ?_
  refine z_V0 (As := [.ref (G.h + (b2 + 4))]) (rest := []) C hw hl (m_X1_copyRows hO _ hM.held hM2.held (k := k2) (by rw [ez_6, cpr_n _ _ _ _ (by omega) (by omega), e5, cpm5_n _ _ _ (by omega) (by omega)]; exact hq2) hk2) ivX0_61 hM.held.lt (hM.held.at _ _) rfl rfl ⟨(Nat.le_of_ble_eq_true rfl), (Nat.le_of_ble_eq_true rfl)⟩ (Nat.le_of_ble_eq_true rfl) ⟨Nat.zero_le _, Nat.zero_le _⟩ dX0_copyMachine_66 (fun H locs hw => ?_)
  obtain ⟨z_7, ez_7⟩ : ∃ q_9, q_9 = cpr z_6 (b + 4) (b2 + 4) 3 k2 := ⟨_, rfl⟩
  have hw : zS G N Λ z_7 sS H locs := by rw [ez_7]; exact hw
  refine lv_aload_n C.x C.b dX0_copyMachine_69 rfl (lv_at hl 0 rfl) ?_
  refine z_get C hw hM.lt (hM.at _ _) flX0_31 rfl dX0_copyMachine_70 ?_
  refine lv_aload_n C.x C.b dX0_copyMachine_73 rfl (lv_at hl 1 rfl) ?_
  refine z_get C hw hM2.lt (hM2.at _ _) flX0_31 rfl dX0_copyMachine_74 ?_
  refine z_V0 (As := [.ref (G.h + (b2 + 6))]) (rest := []) C hw hl (m_X1_copyRows hO _ hM.pend hM2.pend (k := k3) (by rw [ez_7, cpr_n _ _ _ _ (by omega) (by omega), ez_6, cpr_n _ _ _ _ (by omega) (by omega), e5, cpm5_n _ _ _ (by omega) (by omega)]; exact hq3) hk3) ivX0_61 hM.pend.lt (hM.pend.at _ _) rfl rfl ⟨(Nat.le_of_ble_eq_true rfl), (Nat.le_of_ble_eq_true rfl)⟩ (Nat.le_of_ble_eq_true rfl) ⟨Nat.zero_le _, Nat.zero_le _⟩ dX0_copyMachine_77 (fun H locs hw => ?_)
  obtain ⟨z_8, ez_8⟩ : ∃ q_9, q_9 = cpr z_7 (b + 6) (b2 + 6) 5 k3 := ⟨_, rfl⟩
  have hw : zS G N Λ z_8 sS H locs := by rw [ez_8]; exact hw
  refine z_pc (pc2 := 80) rfl ?_
  exact z_vret C hw dX0_copyMachine_80 (rfl) (by rw [ez_8, ez_7, ez_6, e5]; rfl)

set_option maxRecDepth 100000 in
set_option maxHeartbeats 4000000 in
theorem m_X1_addCopy {G : zG} {N : Nat} {Λ : zLay} {l : Launch} (hO : zOK G l) (z : zM) {t o w mc mc2 : Nat} (hT : zT G N Λ t w mc) (hT2 : zT G N Λ o w mc2) (hne : o + 2 ≤ t ∨ t + 2 ≤ o) {k ko : Nat} (hk : z.1 t 3 = nI k) (hk2 : k < mc) (hko : z.1 o 3 = nI ko) (hko2 : ko ≤ mc2) {r : Nat} (hr : r < ko) : zMet G N Λ l yX1_addCopy cX1_addCopy 5 none 1 [.ref (G.h + t), .ref (G.h + o), .int (nI r)] z none (acz (zi z t 3 (nI (k + 1))) t o w k r w) := by
  refine zMet_of hO (by decide) (Nat.le_of_ble_eq_true rfl) ?_
  intro pP eE sS mM bB tT cC ls C hw hl
  have hl : lv_has ls 5 [(0, .ref (G.h + t)), (1, .ref (G.h + o)), (2, .int (nI r))] := hl
  have hm := hT.mc
  have hm2 := hT2.mc
  have hw5 := hT.w5
  refine lv_aload_n C.x C.b dX1_addCopy_0 rfl (lv_at hl 0 rfl) ?_
  refine z_Vv (As := []) (rest := []) C hw hl (m_X1_addRow hO _ hT hk (Nat.le_of_lt hk2) hk2) ivX1_25 hT.lt (hT.at _ _) rfl rfl ⟨(Nat.le_of_ble_eq_true rfl), (Nat.le_of_ble_eq_true rfl)⟩ (Nat.le_of_ble_eq_true rfl) ⟨Nat.zero_le _, Nat.zero_le _⟩ dX1_addCopy_1 (fun H locs hw => ?_)
  obtain ⟨z_1, ez_1⟩ : ∃ q_9, q_9 = zi z t 3 (nI (k + 1)) := ⟨_, rfl⟩
  have hw : zS G N Λ z_1 sS H locs := by rw [ez_1]; exact hw
  refine lv_istore_n (lv' := [(3, .int (nI k)), (0, .ref (G.h + t)), (1, .ref (G.h + o)), (2, .int (nI r))]) C.x C.b dX1_addCopy_4 rfl hl (by decide) rfl (fun ls hl => ?_)
  refine lv_iconst (v := 0) C.x C.b dX1_addCopy_5 (by decide) ?_
  refine lv_istore (lv' := [(4, .int 0), (3, .int (nI k)), (0, .ref (G.h + t)), (1, .ref (G.h + o)), (2, .int (nI r))]) C.x C.b dX1_addCopy_6 hl (by decide) rfl (fun ls hl => ?_)
  have loop : ∀ (d : Nat) (j : Nat) (H : Heap) (locs : List Loc) (ls : Array Slot) (hj : j + d = w), zS G N Λ (acz z_1 t o w k r j) sS H locs → lv_has ls 5 [(0, .ref (G.h + t)), (1, .ref (G.h + o)), (2, .int (nI r)), (3, .int (nI k)), (4, .int (nI j))] → W pP l eE (zR 1) sS mM ([.ref (G.h + t), .ref (G.h + o), .int (nI r)] : List Value).toArray bB tT cC H locs 0 0 (MQ bB (zQc G N Λ none (acz (zi z t 3 (nI (k + 1))) t o w k r w)) ([.ref (G.h + t), .ref (G.h + o), .int (nI r)] : List Value).toArray sS 0 0 (zA G)) (F0 mM 8 ls []) := by
    intro d
    induction d with
    | zero =>
      intro j H locs ls hj hw hl
      have h1 : (acz z_1 t o w k r j).1 t 3 = nI (k + 1) := by rw [acz_n _ _ _ _ _ _ (by omega), ez_1, zi_at, if_pos ⟨rfl, rfl⟩]
      have h2 : (acz z_1 t o w k r j).1 o 3 = nI ko := by rw [acz_n _ _ _ _ _ _ (by omega), ez_1, zi_at, if_neg (by omega)]; exact hko
      refine lv_iload C.x C.b dX1_addCopy_8 (lv_at hl 4 rfl) ?_
      refine lv_aload_n C.x C.b dX1_addCopy_10 rfl (lv_at hl 0 rfl) ?_
      refine z_get C hw hT.lt (hT.at _ _) flX1_9 rfl dX1_addCopy_11 ?_
      refine lv_icmp_ge (tgt := 37) C.x C.b dX1_addCopy_14 (by decide) (fun c_14 => ?_) (fun c_14 => absurd (zle (by omega) (by omega)) c_14)
      exact z_vret C hw dX1_addCopy_37 (rfl) (by
        have h9 : j = w := by omega
        rw [h9, ez_1])
    | succ d ih =>
      intro j H locs ls hj hw hl
      have h1 : (acz z_1 t o w k r j).1 t 3 = nI (k + 1) := by rw [acz_n _ _ _ _ _ _ (by omega), ez_1, zi_at, if_pos ⟨rfl, rfl⟩]
      have h2 : (acz z_1 t o w k r j).1 o 3 = nI ko := by rw [acz_n _ _ _ _ _ _ (by omega), ez_1, zi_at, if_neg (by omega)]; exact hko
      refine lv_iload C.x C.b dX1_addCopy_8 (lv_at hl 4 rfl) ?_
      refine lv_aload_n C.x C.b dX1_addCopy_10 rfl (lv_at hl 0 rfl) ?_
      refine z_get C hw hT.lt (hT.at _ _) flX1_9 rfl dX1_addCopy_11 ?_
      refine lv_icmp_ge (tgt := 37) C.x C.b dX1_addCopy_14 (by decide) (fun c_14 => absurd c_14 (znle (by omega) (by omega))) (fun c_14 => ?_)
      refine lv_aload_n C.x C.b dX1_addCopy_17 rfl (lv_at hl 0 rfl) ?_
      refine lv_iload_n C.x C.b dX1_addCopy_18 rfl (lv_at hl 3 rfl) ?_
      refine lv_iload C.x C.b dX1_addCopy_19 (lv_at hl 4 rfl) ?_
      refine lv_aload_n C.x C.b dX1_addCopy_21 rfl (lv_at hl 1 rfl) ?_
      refine lv_iload_n C.x C.b dX1_addCopy_22 rfl (lv_at hl 2 rfl) ?_
      refine lv_iload C.x C.b dX1_addCopy_23 (lv_at hl 4 rfl) ?_
      refine z_Vv (As := [.int (nI r), .int (nI j)]) (rest := [.int (nI j), .int (nI k), .ref (G.h + t)]) C hw hl (m_X1_get hO _ hT2 h2 hko2 (r := r) (c := j) hr (by omega)) ivX1_29 hT2.lt (hT2.at _ _) rfl rfl ⟨(Nat.le_of_ble_eq_true rfl), (Nat.le_of_ble_eq_true rfl)⟩ (Nat.le_of_ble_eq_true rfl) ⟨Nat.zero_le _, Nat.zero_le _⟩ dX1_addCopy_25 (fun H locs hw => ?_)
      refine z_V0 (As := [.int (nI k), .int (nI j), .int ((acz z_1 t o w k r j).1 (o + 1) (r * w + j))]) (rest := []) C hw hl (m_X1_set hO _ hT h1 (by omega) (r := k) (c := j) (by omega) (by omega)) ivX1_33 hT.lt (hT.at _ _) rfl rfl ⟨(Nat.le_of_ble_eq_true rfl), (Nat.le_of_ble_eq_true rfl)⟩ (Nat.le_of_ble_eq_true rfl) ⟨Nat.zero_le _, Nat.zero_le _⟩ dX1_addCopy_28 (fun H locs hw => ?_)
      obtain ⟨z_2, ez_2⟩ : ∃ q_9, q_9 = zi (acz z_1 t o w k r j) (t + 1) (k * w + j) ((acz z_1 t o w k r j).1 (o + 1) (r * w + j)) := ⟨_, rfl⟩
      have hw : zS G N Λ z_2 sS H locs := by rw [ez_2]; exact hw
      refine lv_iinc (v := nI j + 1) (lv' := [(4, .int (nI j + 1)), (0, .ref (G.h + t)), (1, .ref (G.h + o)), (2, .int (nI r)), (3, .int (nI k))]) C.x C.b dX1_addCopy_31 hl (k := 4) rfl rfl (by decide) rfl (fun ls hl => ?_)
      have hl : lv_has ls 5 [(4, .int (nI (j + 1))), (0, .ref (G.h + t)), (1, .ref (G.h + o)), (2, .int (nI r)), (3, .int (nI k))] := by
        have e9 : nI j + 1 = nI (j + 1) := nI_1 j
        rw [← e9]; exact hl
      refine lv_goto (tgt := 8) C.x C.b dX1_addCopy_34 (by decide) ?_
      exact ih (j + 1) _ _ _ (by omega) (by rw [← acz_step _ _ _ _ _ (by omega)]; rw [ez_2] at hw; exact hw) (lv_sub hl [1, 2, 3, 4, 0] rfl)
  exact loop w 0 _ _ _ (by omega) (by rw [acz_0]; exact hw) (lv_sub hl [2, 3, 4, 1, 0] rfl)

set_option maxRecDepth 100000 in
set_option maxHeartbeats 4000000 in
theorem m_X1_addCopy_full {G : zG} {N : Nat} {Λ : zLay} {l : Launch} (hO : zOK G l) (z : zM) {t o w mc mc2 : Nat} (hT : zT G N Λ t w mc) (hT2 : zT G N Λ o w mc2) (hk : z.1 t 3 = nI mc) {ko : Nat} (hko : z.1 o 3 = nI ko) (hko2 : ko ≤ mc2) {r : Nat} (hr : r < ko) : zMet G N Λ l yX1_addCopy cX1_addCopy 5 none 1 [.ref (G.h + t), .ref (G.h + o), .int (nI r)] z none z := by
  refine zMet_of hO (by decide) (Nat.le_of_ble_eq_true rfl) ?_
  intro pP eE sS mM bB tT cC ls C hw hl
  have hl : lv_has ls 5 [(0, .ref (G.h + t)), (1, .ref (G.h + o)), (2, .int (nI r))] := hl
  have hm := hT.mc
  have hm2 := hT2.mc
  have hw5 := hT.w5
  refine lv_aload_n C.x C.b dX1_addCopy_0 rfl (lv_at hl 0 rfl) ?_
  refine z_Vv (As := []) (rest := []) C hw hl (m_X1_addRow_no hO _ hT hk) ivX1_25 hT.lt (hT.at _ _) rfl rfl ⟨(Nat.le_of_ble_eq_true rfl), (Nat.le_of_ble_eq_true rfl)⟩ (Nat.le_of_ble_eq_true rfl) ⟨Nat.zero_le _, Nat.zero_le _⟩ dX1_addCopy_1 (fun H locs hw => ?_)
  refine lv_istore_n (lv' := [(3, .int (-1)), (0, .ref (G.h + t)), (1, .ref (G.h + o)), (2, .int (nI r))]) C.x C.b dX1_addCopy_4 rfl hl (by decide) rfl (fun ls hl => ?_)
  refine lv_iconst (v := 0) C.x C.b dX1_addCopy_5 (by decide) ?_
  refine lv_istore (lv' := [(4, .int 0), (3, .int (-1)), (0, .ref (G.h + t)), (1, .ref (G.h + o)), (2, .int (nI r))]) C.x C.b dX1_addCopy_6 hl (by decide) rfl (fun ls hl => ?_)
  have loop : ∀ (d : Nat) (j : Nat) (H : Heap) (locs : List Loc) (ls : Array Slot) (hj : j + d = w), zS G N Λ z sS H locs → lv_has ls 5 [(0, .ref (G.h + t)), (1, .ref (G.h + o)), (2, .int (nI r)), (3, .int (-1)), (4, .int (nI j))] → W pP l eE (zR 1) sS mM ([.ref (G.h + t), .ref (G.h + o), .int (nI r)] : List Value).toArray bB tT cC H locs 0 0 (MQ bB (zQc G N Λ none z) ([.ref (G.h + t), .ref (G.h + o), .int (nI r)] : List Value).toArray sS 0 0 (zA G)) (F0 mM 8 ls []) := by
    intro d
    induction d with
    | zero =>
      intro j H locs ls hj hw hl
      refine lv_iload C.x C.b dX1_addCopy_8 (lv_at hl 4 rfl) ?_
      refine lv_aload_n C.x C.b dX1_addCopy_10 rfl (lv_at hl 0 rfl) ?_
      refine z_get C hw hT.lt (hT.at _ _) flX1_9 rfl dX1_addCopy_11 ?_
      refine lv_icmp_ge (tgt := 37) C.x C.b dX1_addCopy_14 (by decide) (fun c_14 => ?_) (fun c_14 => absurd (zle (by omega) (by omega)) c_14)
      exact z_vret C hw dX1_addCopy_37 (rfl) (rfl)
    | succ d ih =>
      intro j H locs ls hj hw hl
      refine lv_iload C.x C.b dX1_addCopy_8 (lv_at hl 4 rfl) ?_
      refine lv_aload_n C.x C.b dX1_addCopy_10 rfl (lv_at hl 0 rfl) ?_
      refine z_get C hw hT.lt (hT.at _ _) flX1_9 rfl dX1_addCopy_11 ?_
      refine lv_icmp_ge (tgt := 37) C.x C.b dX1_addCopy_14 (by decide) (fun c_14 => absurd c_14 (znle (by omega) (by omega))) (fun c_14 => ?_)
      refine lv_aload_n C.x C.b dX1_addCopy_17 rfl (lv_at hl 0 rfl) ?_
      refine lv_iload_n C.x C.b dX1_addCopy_18 rfl (lv_at hl 3 rfl) ?_
      refine lv_iload C.x C.b dX1_addCopy_19 (lv_at hl 4 rfl) ?_
      refine lv_aload_n C.x C.b dX1_addCopy_21 rfl (lv_at hl 1 rfl) ?_
      refine lv_iload_n C.x C.b dX1_addCopy_22 rfl (lv_at hl 2 rfl) ?_
      refine lv_iload C.x C.b dX1_addCopy_23 (lv_at hl 4 rfl) ?_
      refine z_Vv (As := [.int (nI r), .int (nI j)]) (rest := [.int (nI j), .int (-1), .ref (G.h + t)]) C hw hl (m_X1_get hO _ hT2 hko hko2 (r := r) (c := j) hr (by omega)) ivX1_29 hT2.lt (hT2.at _ _) rfl rfl ⟨(Nat.le_of_ble_eq_true rfl), (Nat.le_of_ble_eq_true rfl)⟩ (Nat.le_of_ble_eq_true rfl) ⟨Nat.zero_le _, Nat.zero_le _⟩ dX1_addCopy_25 (fun H locs hw => ?_)
      refine z_V0 (As := [.int (-1), .int (nI j), .int (z.1 (o + 1) (r * w + j))]) (rest := []) C hw hl (m_X1_set_no hO _ hT) ivX1_33 hT.lt (hT.at _ _) rfl rfl ⟨(Nat.le_of_ble_eq_true rfl), (Nat.le_of_ble_eq_true rfl)⟩ (Nat.le_of_ble_eq_true rfl) ⟨Nat.zero_le _, Nat.zero_le _⟩ dX1_addCopy_28 (fun H locs hw => ?_)
      refine lv_iinc (v := nI j + 1) (lv' := [(4, .int (nI j + 1)), (0, .ref (G.h + t)), (1, .ref (G.h + o)), (2, .int (nI r)), (3, .int (-1))]) C.x C.b dX1_addCopy_31 hl (k := 4) rfl rfl (by decide) rfl (fun ls hl => ?_)
      have hl : lv_has ls 5 [(4, .int (nI (j + 1))), (0, .ref (G.h + t)), (1, .ref (G.h + o)), (2, .int (nI r)), (3, .int (-1))] := by
        have e9 : nI j + 1 = nI (j + 1) := nI_1 j
        rw [← e9]; exact hl
      refine lv_goto (tgt := 8) C.x C.b dX1_addCopy_34 (by decide) ?_
      exact ih (j + 1) _ _ _ (by omega) hw (lv_sub hl [1, 2, 3, 4, 0] rfl)
  exact loop w 0 _ _ _ (by omega) hw (lv_sub hl [2, 3, 4, 1, 0] rfl)
end
section
/-! ===== worlds: what may happen to them, and how the class's cells follow ===== -/
def aM.setSt (M : aM) (s : Nat) : aM := ((s, M.sil, M.lie, M.wit), M.2)
def aM.setSil (M : aM) (s : Nat) : aM := ((M.st, s, M.lie, M.wit), M.2)
def aM.setLie (M : aM) (s : Nat) : aM := ((M.st, M.sil, s, M.wit), M.2)
def aM.setWit (M : aM) (s : Nat) : aM := ((M.st, M.sil, M.lie, s), M.2)
def aM.setVer (M : aM) (f : Nat → Nat) : aM := (M.1, f, M.2.2)
def aM.setLog (M : aM) (T : aT) : aM := (M.1, M.ver, T, M.held, M.pend)
def aM.setHeld (M : aM) (T : aT) : aM := (M.1, M.ver, M.log, T, M.pend)
def aM.setPend (M : aM) (T : aT) : aM := (M.1, M.ver, M.log, M.held, T)
def aS.setM (S : aS) (x : Nat) (M : aM) : aS := (S.n, va_up S.m x M, S.q, S.ev)
def aS.setQ (S : aS) (T : aT) : aS := (S.n, S.m, T, S.ev)
def aS.setE (S : aS) (T : aT) : aS := (S.n, S.m, S.q, T)
theorem aS.setM_s (S : aS) (x : Nat) (M : aM) : (S.setM x M).m x = M := va_up_self _ _ _
theorem aS.setM_n (S : aS) {x y : Nat} (M : aM) (h : y ≠ x) : (S.setM x M).m y = S.m y := va_up_ne _ _ h
/-- a machine gets an authenticator: the oldest goes where there are 60 -/
def thold (T : aT) (r : Nat → Nat) : aT := tpush (if T.1 = 60 then tpop T else T) r
def aHold (S : aS) (x : Nat) (r : Nat → Nat) : aS := S.setM x ((S.m x).setHeld (thold (S.m x).held r))
def aSend (S : aS) (x : Nat) : aS :=
  (S.setM x (((S.m x).setLie 0).setLog (tpush (S.m x).log (row3 2 (gt x (S.m x).st S.n + 1) (((S.m x).st % 1000 + (S.m x).lie) % 1000))))).setQ
    (tpush S.q (row5 x (S.m x).log.1 (CH (tpush (S.m x).log (row3 2 (gt x (S.m x).st S.n + 1) (((S.m x).st % 1000 + (S.m x).lie) % 1000))).2 ((S.m x).log.1 + 1)) (gt x (S.m x).st S.n) (((S.m x).st % 1000 + (S.m x).lie) % 1000)))
def aTk1 (S : aS) (x a q v : Nat) : aS := S.setM x (((S.m x).setLog (tpush (S.m x).log (row3 a q v))).setSt (nx (S.m x).st v q))
/-- a machine takes a value v of kind a from the peer q - 1 -/
def aTake (S : aS) (x a q v : Nat) : aS := if nx (S.m x).st v q % 3 = 0 then aSend (aTk1 S x a q v) x else aTk1 S x a q v
def aPopQ (S : aS) : aS := S.setQ (tpop S.q)
def aPend (S : aS) (x : Nat) (r : Nat → Nat) : aS := S.setM x ((S.m x).setPend (if (S.m x).pend.1 < 40 then tpush (S.m x).pend r else (S.m x).pend))
def aDel2 (S : aS) (x y k : Nat) : aS := aHold S y (row3 x k (CH (S.m x).log.2 (k + 1)))
/-- the first message is delivered -/
def aDel (S : aS) : aS :=
  if (S.m (S.q.2 0 3)).sil = 0 then
    aDel2 (aTake (aPopQ (aHold S (S.q.2 0 3) (row3 (S.q.2 0 0) (S.q.2 0 1) (S.q.2 0 2)))) (S.q.2 0 3) 1 (S.q.2 0 0 + 1) (S.q.2 0 4)) (S.q.2 0 3) (S.q.2 0 0) (S.m (S.q.2 0 3)).log.1
  else aPopQ (aPend S (S.q.2 0 3) (S.q.2 0))
/-- whether the first message can be delivered -/
def aCan (S : aS) : Bool := decide (0 < S.q.1 ∧ (¬ (S.m (S.q.2 0 3)).sil = 0 ∨ (S.m (S.q.2 0 3)).log.1 ≤ 38))
theorem aCan_iff {S : aS} : aCan S = true ↔ 0 < S.q.1 ∧ (¬ (S.m (S.q.2 0 3)).sil = 0 ∨ (S.m (S.q.2 0 3)).log.1 ≤ 38) := decide_eq_true_iff
/-- an audit of machine x -/
def belA (S : aS) (x : Nat) : Nat → Nat → Option Nat
  | 0, _ => none
  | d + 1, y => if (S.m y).sil = 0 then (match bel (S.m y).held (S.m x).log x (S.m y).held.1 0 with
      | some e => some e
      | none => belA S x d (y + 1)) else belA S x d (y + 1)
def jRe (S : aS) (w x : Nat) : Nat × Option (Nat × Nat) := match rpl (S.m x).log.2 (S.m x).log.1 x S.n ((S.m x).log.1 + 1) 0 x with
  | some e => (2, some (1, e))
  | none => (if 0 < (S.m x).pend.1 then 1 else 0, none)
def jdg (S : aS) (w x : Nat) : Nat × Option (Nat × Nat) :=
  if (S.m x).ver w = 2 then (2, none) else if ¬ (S.m x).sil = 0 then (1, none) else match belA S x S.n 0 with
    | some e => (2, some (0, e))
    | none => jRe S w x
def aJ (S : aS) (w x : Nat) (o : Option (Nat × Nat)) : aS := match o with
  | none => S
  | some k => S.setE (tpush S.ev (row4 k.1 x w k.2))
def aAud (S : aS) (w x : Nat) : aS := (aJ S w x (jdg S w x).2).setM x ((S.m x).setVer (va_up (S.m x).ver w (jdg S w x).1))
/-- how often it holds below k -/
def cnt (f : Nat → Bool) : Nat → Nat
  | 0 => 0
  | k + 1 => cnt f k + (if f k then 1 else 0)
def csum (f : Nat → Nat) : Nat → Nat
  | 0 => 0
  | k + 1 => csum f k + f k
def exps (S : aS) : Nat := csum (fun x => cnt (fun w => decide ((S.m x).ver w = 2)) S.n) S.n
def okLog (n : Nat) (T : aT) : Prop := T.1 ≤ 40 ∧ ∀ j, j < T.1 → T.2 j 0 ≤ 2 ∧ T.2 j 1 ≤ n ∧ T.2 j 2 < 1000
def okHeld (n : Nat) (T : aT) : Prop := T.1 ≤ 60 ∧ ∀ j, j < T.1 → T.2 j 0 < n ∧ T.2 j 1 < 40 ∧ T.2 j 2 < 2147483647
def okMsg (n : Nat) (T : aT) : Prop := T.1 ≤ 40 ∧ ∀ j, j < T.1 → T.2 j 0 < n ∧ T.2 j 1 < 40 ∧ T.2 j 2 < 2147483647 ∧ T.2 j 3 < n ∧ T.2 j 4 < 1000
def okEv (n : Nat) (T : aT) : Prop := T.1 ≤ 30 ∧ ∀ j, j < T.1 → T.2 j 0 ≤ 1 ∧ T.2 j 1 < n ∧ T.2 j 2 < n ∧ T.2 j 3 ≤ 40
def okM (n x : Nat) (M : aM) : Prop := (M.st < 9973 ∧ M.sil < 2 ∧ M.lie < 2 ∧ M.wit < 2 ^ n ∧ M.wit.testBit x = false) ∧ ((∀ w, M.ver w ≤ 2) ∧ M.ver x = 0) ∧ okLog n M.log ∧ okHeld n M.held ∧ okMsg n M.pend
def aOK (S : aS) : Prop := (2 ≤ S.n ∧ S.n ≤ 6) ∧ (∀ x, x < S.n → okM S.n x (S.m x)) ∧ okMsg S.n S.q ∧ okEv S.n S.ev ∧ S.ev.1 = exps S
theorem zfr.mono {z z' : zM} {lo n lo2 n2 : Nat} (h : zfr z z' lo n) (h1 : lo2 ≤ lo) (h2 : lo + n ≤ lo2 + n2) : zfr z z' lo2 n2 := ⟨fun i hi => h.1 i (by omega), h.2⟩
theorem zfr.tr {z z' z'' : zM} {lo n : Nat} (h : zfr z z' lo n) (h' : zfr z' z'' lo n) : zfr z z'' lo n := ⟨fun i hi => by rw [h'.1 i hi, h.1 i hi], by rw [h'.2, h.2]⟩
theorem zfr.rf (z : zM) (lo n : Nat) : zfr z z lo n := ⟨fun _ _ => rfl, rfl⟩
theorem zi_fr (z : zM) (i j : Nat) (v : Int32) : zfr z (zi z i j v) i 1 := ⟨fun a ha => by funext b; rw [zi_at, if_neg (by omega)], rfl⟩
theorem zr_fr (z : zM) (i : Nat) (f : Nat → Int32) : zfr z (zr z i f) i 1 := ⟨fun a ha => zr_n _ _ (by omega), rfl⟩
theorem rTb.cg {z z' : zM} {t w : Nat} {T : aT} (h : rTb z t w T) (h0 : z'.1 t = z.1 t) (h1 : z'.1 (t + 1) = z.1 (t + 1)) : rTb z' t w T := ⟨by rw [h0]; exact h.1, fun j hj c hc => by rw [h1]; exact h.2 j hj c hc⟩
theorem rLog.cg {z z' : zM} {t : Nat} {T : aT} (h : rLog z t T) (h0 : z'.1 t = z.1 t) (h1 : z'.1 (t + 1) = z.1 (t + 1)) : rLog z' t T := ⟨by rw [h0]; exact h.1, fun j hj => by rw [h1]; exact h.2.1 j hj, fun j hj => by rw [h1]; exact h.2.2 j hj⟩
theorem rCnt.cg {z z' : zM} {t mc : Nat} (h : rCnt z t mc) (h0 : z'.1 t = z.1 t) : rCnt z' t mc := by
  obtain ⟨k, h1, h2⟩ := h
  exact ⟨k, h1, by rw [h0]; exact h2⟩
theorem rM.cg {z z' : zM} {b : Nat} {M : aM} (h : rM z b M) (hf : ∀ i, b ≤ i → i < b + 8 → z'.1 i = z.1 i) : rM z' b M := by
  obtain ⟨⟨a1, a2, a3, a4⟩, a5, a6, a7, a8⟩ := h
  have h0 := hf b (by omega) (by omega)
  have h1 := hf (b + 1) (by omega) (by omega)
  refine ⟨⟨?_, ?_, ?_, ?_⟩, fun w hw => ?_, a6.cg (hf _ (by omega) (by omega)) (hf _ (by omega) (by omega)), a7.cg (hf _ (by omega) (by omega)) (hf _ (by omega) (by omega)), a8.cg (hf _ (by omega) (by omega)) (hf _ (by omega) (by omega))⟩
  · rw [h0]; exact a1
  · rw [h0]; exact a2
  · rw [h0]; exact a3
  · rw [h0]; exact a4
  · rw [h1]; exact a5 w hw
theorem rSane.cg {z z' : zM} {b : Nat} (h : rSane z b) (hf : ∀ i, b ≤ i → i < b + 8 → z'.1 i = z.1 i) : rSane z' b :=
  ⟨h.1.cg (hf _ (by omega) (by omega)), h.2.1.cg (hf _ (by omega) (by omega)), h.2.2.cg (hf _ (by omega) (by omega))⟩
/-- the cells of a world: what they show, and the counts in range -/
def wI (z : zM) (b : Nat) (S : aS) : Prop := rW z b S ∧ rAll z b
theorem rM.sane {z : zM} {b : Nat} {M : aM} (h : rM z b M) (h1 : M.log.1 ≤ 40) (h2 : M.held.1 ≤ 60) (h3 : M.pend.1 ≤ 40) : rSane z b := ⟨⟨_, h1, h.2.2.1.1⟩, ⟨_, h2, h.2.2.2.1.1⟩, ⟨_, h3, h.2.2.2.2.1⟩⟩
theorem wI.setM {z z' : zM} {b x : Nat} {S : aS} {M : aM} (h : wI z b S) (hx : x < 6) (hf : zfr z z' (b + 2 + 8 * x) 8) (hm : rM z' (b + 2 + 8 * x) M) (h1 : M.log.1 ≤ 40) (h2 : M.held.1 ≤ 60) (h3 : M.pend.1 ≤ 40) : wI z' b (S.setM x M) := by
  obtain ⟨⟨a1, a2, a3, a4⟩, b1, b2, b3⟩ := h
  refine ⟨⟨by rw [hf.1 b (by omega)]; exact a1, fun y hy => ?_, a3.cg (hf.1 _ (by omega)) (hf.1 _ (by omega)), a4.cg (hf.1 _ (by omega)) (hf.1 _ (by omega))⟩, fun y hy => ?_, b2.cg (hf.1 _ (by omega)), b3.cg (hf.1 _ (by omega))⟩
  · by_cases hyx : y = x
    · subst hyx; rw [aS.setM_s]; exact hm
    · rw [aS.setM_n _ _ hyx]
      exact (a2 y hy).cg (fun i h1 h2 => hf.1 i (by omega))
  · by_cases hyx : y = x
    · subst hyx; exact hm.sane h1 h2 h3
    · exact (b1 y hy).cg (fun i h1 h2 => hf.1 i (by omega))
theorem wI.setQ {z z' : zM} {b : Nat} {S : aS} {T : aT} (h : wI z b S) (hf : zfr z z' (b + 50) 2) (hm : rTb z' (b + 50) 5 T) (h1 : T.1 ≤ 40) (hn : S.n ≤ 6) : wI z' b (S.setQ T) := by
  obtain ⟨⟨a1, a2, a3, a4⟩, b1, b2, b3⟩ := h
  have a2' : ∀ y, y < S.n → rM z (b + 2 + 8 * y) (S.m y) := a2
  refine ⟨⟨by rw [hf.1 b (by omega)]; exact a1, fun y hy => (a2 y hy).cg (fun i h1 h2 => hf.1 i ?_), hm, a4.cg (hf.1 _ (by omega)) (hf.1 _ (by omega))⟩, fun y hy => (b1 y hy).cg (fun i h1 h2 => hf.1 i (by omega)), ⟨_, h1, hm.1⟩, b3.cg (hf.1 _ (by omega))⟩
  have hy : y < S.n := hy
  omega
theorem wI.setE {z z' : zM} {b : Nat} {S : aS} {T : aT} (h : wI z b S) (hf : zfr z z' (b + 52) 2) (hm : rTb z' (b + 52) 4 T) (h1 : T.1 ≤ 30) (hn : S.n ≤ 6) : wI z' b (S.setE T) := by
  obtain ⟨⟨a1, a2, a3, a4⟩, b1, b2, b3⟩ := h
  refine ⟨⟨by rw [hf.1 b (by omega)]; exact a1, fun y hy => (a2 y hy).cg (fun i h1 h2 => hf.1 i ?_), a3.cg (hf.1 _ (by omega)) (hf.1 _ (by omega)), hm⟩, fun y hy => (b1 y hy).cg (fun i h1 h2 => hf.1 i (by omega)), b2.cg (hf.1 _ (by omega)), ⟨_, h1, hm.1⟩⟩
  have hy : y < S.n := hy
  omega
theorem wI.cg {z z' : zM} {b : Nat} {S : aS} (h : wI z b S) (hn : S.n ≤ 6) (hf : ∀ i, b ≤ i → i < b + 54 → z'.1 i = z.1 i) : wI z' b S := by
  obtain ⟨⟨a1, a2, a3, a4⟩, b1, b2, b3⟩ := h
  refine ⟨⟨by rw [hf b (by omega) (by omega)]; exact a1, fun y hy => (a2 y hy).cg (fun i h1 h2 => hf i (by omega) ?_), a3.cg (hf _ (by omega) (by omega)) (hf _ (by omega) (by omega)), a4.cg (hf _ (by omega) (by omega)) (hf _ (by omega) (by omega))⟩, fun y hy => (b1 y hy).cg (fun i h1 h2 => hf i (by omega) (by omega)), b2.cg (hf _ (by omega) (by omega)), b3.cg (hf _ (by omega) (by omega))⟩
  omega
/-- machines: one thing changes -/
theorem rM.st {z : zM} {b : Nat} {M : aM} (h : rM z b M) (s : Nat) : rM (zi z b 1 (nI s)) b (M.setSt s) := by
  obtain ⟨⟨a1, a2, a3, a4⟩, a5, a6, a7, a8⟩ := h
  have hn : ∀ i, i ≠ b → (zi z b 1 (nI s)).1 i = z.1 i := fun i hi => (zi_fr z b 1 (nI s)).1 i (by omega)
  refine ⟨⟨?_, ?_, ?_, ?_⟩, fun w hw => ?_, a6.cg (hn _ (by omega)) (hn _ (by omega)), a7.cg (hn _ (by omega)) (hn _ (by omega)), a8.cg (hn _ (by omega)) (hn _ (by omega))⟩
  · rw [zi_at, if_pos ⟨rfl, rfl⟩]; rfl
  · rw [zi_at, if_neg (by omega)]; exact a2
  · rw [zi_at, if_neg (by omega)]; exact a3
  · rw [zi_at, if_neg (by omega)]; exact a4
  · rw [hn _ (by omega)]; exact a5 w hw
theorem rM.sil {z : zM} {b : Nat} {M : aM} (h : rM z b M) (s : Nat) : rM (zi z b 2 (nI s)) b (M.setSil s) := by
  obtain ⟨⟨a1, a2, a3, a4⟩, a5, a6, a7, a8⟩ := h
  have hn : ∀ i, i ≠ b → (zi z b 2 (nI s)).1 i = z.1 i := fun i hi => (zi_fr z b 2 (nI s)).1 i (by omega)
  refine ⟨⟨?_, ?_, ?_, ?_⟩, fun w hw => ?_, a6.cg (hn _ (by omega)) (hn _ (by omega)), a7.cg (hn _ (by omega)) (hn _ (by omega)), a8.cg (hn _ (by omega)) (hn _ (by omega))⟩
  · rw [zi_at, if_neg (by omega)]; exact a1
  · rw [zi_at, if_pos ⟨rfl, rfl⟩]; rfl
  · rw [zi_at, if_neg (by omega)]; exact a3
  · rw [zi_at, if_neg (by omega)]; exact a4
  · rw [hn _ (by omega)]; exact a5 w hw
theorem rM.lie {z : zM} {b : Nat} {M : aM} (h : rM z b M) (s : Nat) : rM (zi z b 3 (nI s)) b (M.setLie s) := by
  obtain ⟨⟨a1, a2, a3, a4⟩, a5, a6, a7, a8⟩ := h
  have hn : ∀ i, i ≠ b → (zi z b 3 (nI s)).1 i = z.1 i := fun i hi => (zi_fr z b 3 (nI s)).1 i (by omega)
  refine ⟨⟨?_, ?_, ?_, ?_⟩, fun w hw => ?_, a6.cg (hn _ (by omega)) (hn _ (by omega)), a7.cg (hn _ (by omega)) (hn _ (by omega)), a8.cg (hn _ (by omega)) (hn _ (by omega))⟩
  · rw [zi_at, if_neg (by omega)]; exact a1
  · rw [zi_at, if_neg (by omega)]; exact a2
  · rw [zi_at, if_pos ⟨rfl, rfl⟩]; rfl
  · rw [zi_at, if_neg (by omega)]; exact a4
  · rw [hn _ (by omega)]; exact a5 w hw
theorem rM.wit {z : zM} {b : Nat} {M : aM} (h : rM z b M) (s : Nat) : rM (zi z b 4 (nI s)) b (M.setWit s) := by
  obtain ⟨⟨a1, a2, a3, a4⟩, a5, a6, a7, a8⟩ := h
  have hn : ∀ i, i ≠ b → (zi z b 4 (nI s)).1 i = z.1 i := fun i hi => (zi_fr z b 4 (nI s)).1 i (by omega)
  refine ⟨⟨?_, ?_, ?_, ?_⟩, fun w hw => ?_, a6.cg (hn _ (by omega)) (hn _ (by omega)), a7.cg (hn _ (by omega)) (hn _ (by omega)), a8.cg (hn _ (by omega)) (hn _ (by omega))⟩
  · rw [zi_at, if_neg (by omega)]; exact a1
  · rw [zi_at, if_neg (by omega)]; exact a2
  · rw [zi_at, if_neg (by omega)]; exact a3
  · rw [zi_at, if_pos ⟨rfl, rfl⟩]; rfl
  · rw [hn _ (by omega)]; exact a5 w hw
theorem rM.ver {z : zM} {b : Nat} {M : aM} (h : rM z b M) {w : Nat} (v : Nat) : rM (zi z (b + 1) w (nI v)) b (M.setVer (va_up M.ver w v)) := by
  obtain ⟨⟨a1, a2, a3, a4⟩, a5, a6, a7, a8⟩ := h
  have hn : ∀ i, i ≠ b + 1 → (zi z (b + 1) w (nI v)).1 i = z.1 i := fun i hi => (zi_fr z (b + 1) w (nI v)).1 i (by omega)
  refine ⟨⟨?_, ?_, ?_, ?_⟩, fun y hy => ?_, a6.cg (hn _ (by omega)) (hn _ (by omega)), a7.cg (hn _ (by omega)) (hn _ (by omega)), a8.cg (hn _ (by omega)) (hn _ (by omega))⟩
  · rw [hn _ (by omega)]; exact a1
  · rw [hn _ (by omega)]; exact a2
  · rw [hn _ (by omega)]; exact a3
  · rw [hn _ (by omega)]; exact a4
  · rw [zi_at]
    by_cases hyw : y = w
    · subst hyw
      rw [if_pos ⟨rfl, rfl⟩]
      show nI v = nI (va_up M.ver y v y)
      rw [va_up_self]
    · rw [if_neg (fun q => hyw q.2)]
      show _ = nI (va_up M.ver w v y)
      rw [va_up_ne _ _ hyw]
      exact a5 y hy
theorem rM.logc {z z' : zM} {b : Nat} {M : aM} (h : rM z b M) {T : aT} (hf : zfr z z' (b + 2) 2) (hl : rLog z' (b + 2) T) : rM z' b (M.setLog T) := by
  obtain ⟨⟨a1, a2, a3, a4⟩, a5, a6, a7, a8⟩ := h
  refine ⟨⟨?_, ?_, ?_, ?_⟩, fun y hy => ?_, hl, a7.cg (hf.1 _ (by omega)) (hf.1 _ (by omega)), a8.cg (hf.1 _ (by omega)) (hf.1 _ (by omega))⟩
  · rw [hf.1 _ (by omega)]; exact a1
  · rw [hf.1 _ (by omega)]; exact a2
  · rw [hf.1 _ (by omega)]; exact a3
  · rw [hf.1 _ (by omega)]; exact a4
  · rw [hf.1 _ (by omega)]; exact a5 y hy
theorem rM.heldc {z z' : zM} {b : Nat} {M : aM} (h : rM z b M) {T : aT} (hf : zfr z z' (b + 4) 2) (hl : rTb z' (b + 4) 3 T) : rM z' b (M.setHeld T) := by
  obtain ⟨⟨a1, a2, a3, a4⟩, a5, a6, a7, a8⟩ := h
  refine ⟨⟨?_, ?_, ?_, ?_⟩, fun y hy => ?_, a6.cg (hf.1 _ (by omega)) (hf.1 _ (by omega)), hl, a8.cg (hf.1 _ (by omega)) (hf.1 _ (by omega))⟩
  · rw [hf.1 _ (by omega)]; exact a1
  · rw [hf.1 _ (by omega)]; exact a2
  · rw [hf.1 _ (by omega)]; exact a3
  · rw [hf.1 _ (by omega)]; exact a4
  · rw [hf.1 _ (by omega)]; exact a5 y hy
theorem rM.pendc {z z' : zM} {b : Nat} {M : aM} (h : rM z b M) {T : aT} (hf : zfr z z' (b + 6) 2) (hl : rTb z' (b + 6) 5 T) : rM z' b (M.setPend T) := by
  obtain ⟨⟨a1, a2, a3, a4⟩, a5, a6, a7, a8⟩ := h
  refine ⟨⟨?_, ?_, ?_, ?_⟩, fun y hy => ?_, a6.cg (hf.1 _ (by omega)) (hf.1 _ (by omega)), a7.cg (hf.1 _ (by omega)) (hf.1 _ (by omega)), hl⟩
  · rw [hf.1 _ (by omega)]; exact a1
  · rw [hf.1 _ (by omega)]; exact a2
  · rw [hf.1 _ (by omega)]; exact a3
  · rw [hf.1 _ (by omega)]; exact a4
  · rw [hf.1 _ (by omega)]; exact a5 y hy
/-- tables: a row behind the last, the first row away, fewer rows -/
theorem rTb.push {z z' : zM} {t w : Nat} {T : aT} (h : rTb z t w T) {r : Nat → Nat} (h0 : z'.1 t 3 = nI (T.1 + 1)) (h1 : ∀ i, i < T.1 * w → z'.1 (t + 1) i = z.1 (t + 1) i) (h2 : ∀ c, c < w → z'.1 (t + 1) (T.1 * w + c) = nI (r c)) : rTb z' t w (tpush T r) := by
  refine ⟨h0, fun j hj c hc => ?_⟩
  have hj : j < T.1 + 1 := hj
  show _ = nI (va_up T.2 T.1 r j c)
  by_cases hjk : j = T.1
  · subst hjk
    rw [va_up_self]
    exact h2 c hc
  · rw [va_up_ne _ _ hjk, h1 _ (by
      have h3 : (j + 1) * w ≤ T.1 * w := Nat.mul_le_mul_right w (by omega)
      rw [Nat.succ_mul] at h3
      omega)]
    exact h.2 j (by omega) c hc
theorem rTb.pop {z : zM} {t w : Nat} {T : aT} (h : rTb z t w T) (h0 : 0 < T.1) : rTb (rmv z t w T.1) t w (tpop T) := by
  refine ⟨?_, fun j hj c hc => ?_⟩
  · rw [rmv, zr_n _ _ (by omega), zi_at, if_pos ⟨rfl, rfl⟩]; rfl
  · have hj : j < T.1 - 1 := hj
    have h3 : (j + 1) * w ≤ (T.1 - 1) * w := Nat.mul_le_mul_right w (by omega)
    rw [Nat.succ_mul] at h3
    rw [rmv, zr_s, pk_cpy_in (by omega) (by omega)]
    have h4 := h.2 (j + 1) (by omega) c hc
    rw [Nat.succ_mul] at h4
    rw [show w + (j * w + c - 0) = j * w + w + c by omega]
    exact h4
theorem rmv_fr (z : zM) (t w k : Nat) : zfr z (rmv z t w k) t 2 := ((zi_fr _ _ _ _).mono (by omega) (by omega)).tr ((zr_fr _ _ _).mono (by omega) (by omega))
theorem rTb.keep {z : zM} {t w : Nat} {T : aT} (h : rTb z t w T) {k : Nat} (hk : k ≤ T.1) : rTb (zi z t 3 (nI k)) t w (tkeep T k) := by
  refine ⟨by rw [zi_at, if_pos ⟨rfl, rfl⟩]; rfl, fun j hj c hc => ?_⟩
  have hj : j < k := hj
  rw [zi_at, if_neg (by omega)]
  exact h.2 j (by omega) c hc
theorem hld_fr (z : zM) (t k : Nat) (m e c : Int32) : zfr z (hld z t k m e c) t 2 := (((zi_fr _ _ _ _).mono (by omega) (by omega)).tr ((zi_fr _ _ _ _).mono (by omega) (by omega))).tr (((zi_fr _ _ _ _).mono (by omega) (by omega)).tr ((zi_fr _ _ _ _).mono (by omega) (by omega)))
theorem hld_tb {z : zM} {t : Nat} {T : aT} (h : rTb z t 3 T) (a e c : Nat) : rTb (hld z t T.1 (nI a) (nI e) (nI c)) t 3 (tpush T (row3 a e c)) := by
  refine h.push ?_ (fun i hi => ?_) (fun k hk => ?_)
  · simp only [hld, zi_at]
    rw [if_neg (by omega), if_neg (by omega), if_neg (by omega), if_pos (by simp)]
  · simp only [hld, zi_at]
    rw [if_neg (by omega), if_neg (by omega), if_neg (by omega), if_neg (by omega)]
  · simp only [hld, zi_at]
    rcases (show k = 0 ∨ k = 1 ∨ k = 2 by omega) with rfl | rfl | rfl
    · rw [if_neg (by omega), if_neg (by omega), if_pos (by simp)]; rfl
    · rw [if_neg (by omega), if_pos (by simp)]; rfl
    · rw [if_pos (by simp)]; rfl
end
section
theorem wI.m {z : zM} {b x : Nat} {S : aS} (h : wI z b S) (hx : x < S.n) : rM z (b + 2 + 8 * x) (S.m x) := h.1.2.1 x hx
theorem wI.n {z : zM} {b : Nat} {S : aS} (h : wI z b S) : z.1 b 0 = nI S.n := h.1.1
theorem wI.q {z : zM} {b : Nat} {S : aS} (h : wI z b S) : rTb z (b + 50) 5 S.q := h.1.2.2.1
theorem wI.e {z : zM} {b : Nat} {S : aS} (h : wI z b S) : rTb z (b + 52) 4 S.ev := h.1.2.2.2
theorem aOK.n2 {S : aS} (h : aOK S) : 2 ≤ S.n := h.1.1
theorem aOK.n6 {S : aS} (h : aOK S) : S.n ≤ 6 := h.1.2
theorem aOK.m {S : aS} (h : aOK S) {x : Nat} (hx : x < S.n) : okM S.n x (S.m x) := h.2.1 x hx
theorem aOK.q {S : aS} (h : aOK S) : okMsg S.n S.q := h.2.2.1
theorem aOK.e {S : aS} (h : aOK S) : okEv S.n S.ev := h.2.2.2.1
theorem okM.st {n x : Nat} {M : aM} (h : okM n x M) : M.st < 9973 := h.1.1
theorem okM.sil {n x : Nat} {M : aM} (h : okM n x M) : M.sil < 2 := h.1.2.1
theorem okM.lie {n x : Nat} {M : aM} (h : okM n x M) : M.lie < 2 := h.1.2.2.1
theorem okM.wit {n x : Nat} {M : aM} (h : okM n x M) : M.wit < 2 ^ n := h.1.2.2.2.1
theorem okM.nw {n x : Nat} {M : aM} (h : okM n x M) : M.wit.testBit x = false := h.1.2.2.2.2
theorem okM.ver {n x : Nat} {M : aM} (h : okM n x M) (w : Nat) : M.ver w ≤ 2 := h.2.1.1 w
theorem okM.log {n x : Nat} {M : aM} (h : okM n x M) : okLog n M.log := h.2.2.1
theorem okM.held {n x : Nat} {M : aM} (h : okM n x M) : okHeld n M.held := h.2.2.2.1
theorem okM.pend {n x : Nat} {M : aM} (h : okM n x M) : okMsg n M.pend := h.2.2.2.2
theorem okLog.row {n : Nat} {T : aT} (h : okLog n T) (hn : n ≤ 6) : okRow T.2 T.1 := fun j hj => ⟨(h.2 j hj).1, Nat.le_trans (h.2 j hj).2.1 hn, (h.2 j hj).2.2⟩
theorem okHeld.b {n : Nat} {T : aT} (h : okHeld n T) (hn : n ≤ 6) : ∀ j, j < T.1 → T.2 j 0 < 6 ∧ T.2 j 1 < 40 ∧ T.2 j 2 < 2147483647 := fun j hj => ⟨Nat.lt_of_lt_of_le (h.2 j hj).1 hn, (h.2 j hj).2.1, (h.2 j hj).2.2⟩
/-- a row of five behind the last -/
def row5z (z : zM) (t k : Nat) (v0 v1 v2 v3 v4 : Int32) : zM := zi (zi (zi (zi (zi (zi z t 3 (nI (k + 1))) (t + 1) (k * 5 + 0) v0) (t + 1) (k * 5 + 1) v1) (t + 1) (k * 5 + 2) v2) (t + 1) (k * 5 + 3) v3) (t + 1) (k * 5 + 4) v4
theorem row5z_fr (z : zM) (t k : Nat) (v0 v1 v2 v3 v4 : Int32) : zfr z (row5z z t k v0 v1 v2 v3 v4) t 2 := ((((zi_fr _ _ _ _).mono (by omega) (by omega)).tr ((zi_fr _ _ _ _).mono (by omega) (by omega))).tr (((zi_fr _ _ _ _).mono (by omega) (by omega)).tr ((zi_fr _ _ _ _).mono (by omega) (by omega)))).tr (((zi_fr _ _ _ _).mono (by omega) (by omega)).tr ((zi_fr _ _ _ _).mono (by omega) (by omega)))
theorem row5z_tb {z : zM} {t : Nat} {T : aT} (h : rTb z t 5 T) (a0 a1 a2 a3 a4 : Nat) : rTb (row5z z t T.1 (nI a0) (nI a1) (nI a2) (nI a3) (nI a4)) t 5 (tpush T (row5 a0 a1 a2 a3 a4)) := by
  refine h.push ?_ (fun i hi => ?_) (fun k hk => ?_)
  · simp only [row5z, zi_at]
    rw [if_neg (by omega), if_neg (by omega), if_neg (by omega), if_neg (by omega), if_neg (by omega), if_pos (by simp)]
  · simp only [row5z, zi_at]
    rw [if_neg (by omega), if_neg (by omega), if_neg (by omega), if_neg (by omega), if_neg (by omega), if_neg (by omega)]
  · simp only [row5z, zi_at]
    rcases (show k = 0 ∨ k = 1 ∨ k = 2 ∨ k = 3 ∨ k = 4 by omega) with rfl | rfl | rfl | rfl | rfl
    · rw [if_neg (by omega), if_neg (by omega), if_neg (by omega), if_neg (by omega), if_pos (by simp)]; rfl
    · rw [if_neg (by omega), if_neg (by omega), if_neg (by omega), if_pos (by simp)]; rfl
    · rw [if_neg (by omega), if_neg (by omega), if_pos (by simp)]; rfl
    · rw [if_neg (by omega), if_pos (by simp)]; rfl
    · rw [if_pos (by simp)]; rfl
def row4z (z : zM) (t k : Nat) (v0 v1 v2 v3 : Int32) : zM := zi (zi (zi (zi (zi z t 3 (nI (k + 1))) (t + 1) (k * 4 + 0) v0) (t + 1) (k * 4 + 1) v1) (t + 1) (k * 4 + 2) v2) (t + 1) (k * 4 + 3) v3
theorem row4z_fr (z : zM) (t k : Nat) (v0 v1 v2 v3 : Int32) : zfr z (row4z z t k v0 v1 v2 v3) t 2 := ((((zi_fr _ _ _ _).mono (by omega) (by omega)).tr ((zi_fr _ _ _ _).mono (by omega) (by omega))).tr (((zi_fr _ _ _ _).mono (by omega) (by omega)).tr ((zi_fr _ _ _ _).mono (by omega) (by omega)))).tr ((zi_fr _ _ _ _).mono (by omega) (by omega))
theorem row4z_tb {z : zM} {t : Nat} {T : aT} (h : rTb z t 4 T) (a0 a1 a2 a3 : Nat) : rTb (row4z z t T.1 (nI a0) (nI a1) (nI a2) (nI a3)) t 4 (tpush T (row4 a0 a1 a2 a3)) := by
  refine h.push ?_ (fun i hi => ?_) (fun k hk => ?_)
  · simp only [row4z, zi_at]
    rw [if_neg (by omega), if_neg (by omega), if_neg (by omega), if_neg (by omega), if_pos (by simp)]
  · simp only [row4z, zi_at]
    rw [if_neg (by omega), if_neg (by omega), if_neg (by omega), if_neg (by omega), if_neg (by omega)]
  · simp only [row4z, zi_at]
    rcases (show k = 0 ∨ k = 1 ∨ k = 2 ∨ k = 3 by omega) with rfl | rfl | rfl | rfl
    · rw [if_neg (by omega), if_neg (by omega), if_neg (by omega), if_pos (by simp)]; rfl
    · rw [if_neg (by omega), if_neg (by omega), if_pos (by simp)]; rfl
    · rw [if_neg (by omega), if_pos (by simp)]; rfl
    · rw [if_pos (by simp)]; rfl
def outv (st li : Nat) : Nat := (st % 1000 + li) % 1000
def sndz (z : zM) (b x n st li qk : Nat) (T : aT) : zM := row5z (lapp (zi z (b + 2 + 8 * x) 3 0) (b + 2 + 8 * x + 2) T.1 2 (gt x st n + 1) (outv st li) (CH T.2 T.1)) (b + 50) qk (nI x) (nI T.1) (nI (CH (tpush T (row3 2 (gt x st n + 1) (outv st li))).2 (T.1 + 1))) (nI (gt x st n)) (nI (outv st li))
def tkz1 (z : zM) (b x st : Nat) (T : aT) (a q v : Nat) : zM := zi (lapp z (b + 2 + 8 * x + 2) T.1 a q v (CH T.2 T.1)) (b + 2 + 8 * x) 1 (nI (nx st v q))
def tkz (z : zM) (b x n st li qk : Nat) (T : aT) (a q v : Nat) : zM := if nx st v q % 3 = 0 then sndz (tkz1 z b x st T a q v) b x n (nx st v q) li qk (tpush T (row3 a q v)) else tkz1 z b x st T a q v
def hdz (z : zM) (t k : Nat) (m e c : Int32) : zM := if k = 60 then hld (rmv z t 3 60) t 59 m e c else hld z t k m e c
theorem hdz_fr (z : zM) (t k : Nat) (m e c : Int32) : zfr z (hdz z t k m e c) t 2 := by
  unfold hdz
  split
  · exact (rmv_fr _ _ _ _).tr (hld_fr _ _ _ _ _ _)
  · exact hld_fr _ _ _ _ _ _
theorem hdz_tb {z : zM} {t : Nat} {T : aT} (h : rTb z t 3 T) (a e c : Nat) : rTb (hdz z t T.1 (nI a) (nI e) (nI c)) t 3 (thold T (row3 a e c)) := by
  unfold hdz thold
  by_cases h6 : T.1 = 60
  · rw [if_pos h6, if_pos h6]
    have h1 := h.pop (by omega)
    rw [h6] at h1
    have h2 := hld_tb h1 a e c
    have h3 : (tpop T).1 = 59 := by show T.1 - 1 = 59; omega
    rw [h3] at h2
    exact h2
  · rw [if_neg h6, if_neg h6]
    exact hld_tb h a e c
theorem m_X0_holdT {G : zG} {N : Nat} {Λ : zLay} {l : Launch} (hO : zOK G l) (z : zM) {b x : Nat} (hM : zMa G N Λ b x) {k : Nat} (hk : z.1 (b + 4) 3 = nI k) (hk2 : k ≤ 60) {mm ee ch : Int32} : zMet G N Λ l yX0_hold cX0_hold 5 none 2 [.ref (G.h + b), .int mm, .int ee, .int ch] z none (hdz z (b + 4) k mm ee ch) := by
  unfold hdz
  by_cases h6 : k = 60
  · rw [if_pos h6]; subst h6; exact m_X0_hold_full hO z hM hk
  · rw [if_neg h6]; exact m_X0_hold hO z hM hk (by omega)
theorem oI_none {o : Option Nat} (h : oI o = -1) (hb : ∀ e, o = some e → e < 2 ^ 31) : o = none := by
  cases o with
  | none => rfl
  | some e => exact absurd h (zm1ne (hb e rfl))
theorem bel_lt {Hd L : aT} {x : Nat} (hb : ∀ j, j < Hd.1 → Hd.2 j 1 < 40) : ∀ (d j e : Nat), j + d = Hd.1 → bel Hd L x d j = some e → e < 40 := by
  intro d
  induction d with
  | zero => intro j e _ h; cases h
  | succ d ih =>
    intro j e hj h
    rw [bel] at h
    split at h
    · cases h; exact hb j (by omega)
    · exact ih (j + 1) e (by omega) h
theorem rpl_le {r : Nat → Nat → Nat} {k x n : Nat} : ∀ (d j st e : Nat), rpl r k x n d j st = some e → e ≤ k := by
  intro d
  induction d with
  | zero => intro j st e h; cases h
  | succ d ih =>
    intro j st e h
    rw [rpl] at h
    split at h
    · cases h
    · split at h
      · cases h; omega
      · split at h
        · split at h
          · exact ih _ _ _ h
          · cases h; omega
        · exact ih _ _ _ h
def jzo (z : zM) (t k w x : Nat) (o : Option (Nat × Nat)) : zM := match o with
  | none => z
  | some p => row4z z t k (nI p.1) (nI x) (nI w) (nI p.2)
def isM (v : Int32) (n : Nat) : Prop := ∃ x, x < n ∧ v = nI x
theorem isM_of {v : Int32} {n : Nat} (h1 : ¬ v < 0) (h2 : ¬ nI n ≤ v) (hn : n < 2 ^ 31) : isM v n := by
  obtain ⟨j, hj, rfl⟩ := nI_of h1
  refine ⟨j, Nat.lt_of_not_le (fun q => h2 (zle hj q)), rfl⟩
theorem belA_lt {S : aS} (hS : aOK S) {x : Nat} : ∀ (d y e : Nat), y + d = S.n → belA S x d y = some e → e < 40 := by
  intro d
  induction d with
  | zero => intro y e _ h; cases h
  | succ d ih =>
    intro y e hy h
    rw [belA] at h
    split at h
    · cases h8 : bel (S.m y).held (S.m x).log x (S.m y).held.1 0 with
      | none => rw [h8] at h; exact ih (y + 1) e (by omega) h
      | some e9 =>
        rw [h8] at h
        cases h
        exact bel_lt (fun j hj => ((hS.m (show y < S.n by omega)).held.2 j hj).2.1) _ _ _ (by omega) h8
    · exact ih (y + 1) e (by omega) h
def swS (S : aS) (x v : Nat) : Nat → Nat → Int32
  | 0, _ => 0
  | d + 1, w => if (S.m x).wit.testBit w = true ∧ (S.m x).ver w = v then 1 else swS S x v d (w + 1)
set_option maxRecDepth 100000 in
set_option maxHeartbeats 4000000 in
theorem m_X2_isMachine {G : zG} {N : Nat} {Λ : zLay} {l : Launch} (hO : zOK G l) (z : zM) {b : Nat} (hW : zWo G N Λ b) {n x : Nat} (hn : z.1 b 0 = nI n) (hn6 : n ≤ 6) (hx : x < n) : zMet G N Λ l yX2_isMachine cX2_isMachine 2 (some .boolean) 0 [.ref (G.h + b), .int (nI x)] z (some (.int 1)) z := by
  refine zMet_of hO (by decide) (Nat.le_of_ble_eq_true rfl) ?_
  intro pP eE sS mM bB tT cC ls C hw hl
  have hl : lv_has ls 2 [(0, .ref (G.h + b)), (1, .int (nI x))] := hl
  refine lv_iload_n C.x C.b dX2_isMachine_0 rfl (lv_at hl 1 rfl) ?_
  refine lv_if_lt (tgt := 16) C.x C.b dX2_isMachine_1 (by decide) (fun c_1 => absurd c_1 (zneg (by omega))) (fun c_1 => ?_)
  refine lv_iload_n C.x C.b dX2_isMachine_4 rfl (lv_at hl 1 rfl) ?_
  refine lv_aload_n C.x C.b dX2_isMachine_5 rfl (lv_at hl 0 rfl) ?_
  refine z_get C hw hW.lt (hW.at _ _) flX2_32 rfl dX2_isMachine_6 ?_
  refine lv_icmp_ge (tgt := 16) C.x C.b dX2_isMachine_9 (by decide) (fun c_9 => absurd c_9 (by rw [hn]; exact znle (by omega) hx)) (fun c_9 => ?_)
  refine lv_iconst (v := 1) C.x C.b dX2_isMachine_12 (by decide) ?_
  refine lv_goto (tgt := 17) C.x C.b dX2_isMachine_13 (by decide) ?_
  exact z_zret C hw dX2_isMachine_17 (by decide) (rfl) (rfl)

set_option maxRecDepth 100000 in
set_option maxHeartbeats 4000000 in
theorem m_X2_isMachine_no {G : zG} {N : Nat} {Λ : zLay} {l : Launch} (hO : zOK G l) (z : zM) {b : Nat} (hW : zWo G N Λ b) {n : Nat} {v : Int32} (hn : z.1 b 0 = nI n) (hn6 : n ≤ 6) (hv : ¬ isM v n) : zMet G N Λ l yX2_isMachine cX2_isMachine 2 (some .boolean) 0 [.ref (G.h + b), .int v] z (some (.int 0)) z := by
  refine zMet_of hO (by decide) (Nat.le_of_ble_eq_true rfl) ?_
  intro pP eE sS mM bB tT cC ls C hw hl
  have hl : lv_has ls 2 [(0, .ref (G.h + b)), (1, .int v)] := hl
  refine lv_iload_n C.x C.b dX2_isMachine_0 rfl (lv_at hl 1 rfl) ?_
  refine lv_if_lt (tgt := 16) C.x C.b dX2_isMachine_1 (by decide) (fun c_1 => ?_) (fun c_1 => ?_)
  · refine lv_iconst (v := 0) C.x C.b dX2_isMachine_16 (by decide) ?_
    exact z_zret C hw dX2_isMachine_17 (by decide) (rfl) (rfl)
  · refine lv_iload_n C.x C.b dX2_isMachine_4 rfl (lv_at hl 1 rfl) ?_
    refine lv_aload_n C.x C.b dX2_isMachine_5 rfl (lv_at hl 0 rfl) ?_
    refine z_get C hw hW.lt (hW.at _ _) flX2_32 rfl dX2_isMachine_6 ?_
    refine lv_icmp_ge (tgt := 16) C.x C.b dX2_isMachine_9 (by decide) (fun c_9 => ?_) (fun c_9 => absurd (isM_of c_1 (by rw [hn] at c_9; exact c_9) (by omega)) hv)
    refine lv_iconst (v := 0) C.x C.b dX2_isMachine_16 (by decide) ?_
    exact z_zret C hw dX2_isMachine_17 (by decide) (rfl) (rfl)

set_option maxRecDepth 100000 in
set_option maxHeartbeats 4000000 in
theorem m_X2_firstReceiver {G : zG} {N : Nat} {Λ : zLay} {l : Launch} (hO : zOK G l) (z : zM) {b : Nat} (hW : zWo G N Λ b) {T : aT} (hq : rTb z (b + 50) 5 T) (hk : T.1 ≤ 40) (h0 : 0 < T.1) : zMet G N Λ l yX2_firstReceiver cX2_firstReceiver 1 (some .int) 1 [.ref (G.h + b)] z (some (.int (nI (T.2 0 3)))) z := by
  refine zMet_of hO (by decide) (Nat.le_of_ble_eq_true rfl) ?_
  intro pP eE sS mM bB tT cC ls C hw hl
  have hl : lv_has ls 1 [(0, .ref (G.h + b))] := hl
  refine lv_aload_n C.x C.b dX2_firstReceiver_0 rfl (lv_at hl 0 rfl) ?_
  refine z_get C hw hW.lt (hW.at _ _) flX2_25 rfl dX2_firstReceiver_1 ?_
  refine lv_iconst (v := 0) C.x C.b dX2_firstReceiver_4 (by decide) ?_
  refine lv_iconst (v := 3) C.x C.b dX2_firstReceiver_5 (by decide) ?_
  refine z_Vv (As := [.int 0, .int 3]) (rest := []) C hw hl (m_X1_get hO _ hW.queue hq.1 hk (r := 0) (c := 3) h0 (by omega)) ivX2_98 hW.queue.lt (hW.queue.at _ _) rfl rfl ⟨(Nat.le_of_ble_eq_true rfl), (Nat.le_of_ble_eq_true rfl)⟩ (Nat.le_of_ble_eq_true rfl) ⟨Nat.zero_le _, Nat.zero_le _⟩ dX2_firstReceiver_6 (fun H locs hw => ?_)
  refine z_topi (y := nI (T.2 0 3)) (hq.2 0 h0 3 (by omega)) ?_
  exact z_iret C hw dX2_firstReceiver_9 (rfl) (rfl)

set_option maxRecDepth 100000 in
set_option maxHeartbeats 4000000 in
theorem m_X2_firstReceiver_no {G : zG} {N : Nat} {Λ : zLay} {l : Launch} (hO : zOK G l) (z : zM) {b : Nat} (hW : zWo G N Λ b) (hq : z.1 (b + 50) 3 = nI 0) : zMet G N Λ l yX2_firstReceiver cX2_firstReceiver 1 (some .int) 1 [.ref (G.h + b)] z (some (.int (-1))) z := by
  refine zMet_of hO (by decide) (Nat.le_of_ble_eq_true rfl) ?_
  intro pP eE sS mM bB tT cC ls C hw hl
  have hl : lv_has ls 1 [(0, .ref (G.h + b))] := hl
  refine lv_aload_n C.x C.b dX2_firstReceiver_0 rfl (lv_at hl 0 rfl) ?_
  refine z_get C hw hW.lt (hW.at _ _) flX2_25 rfl dX2_firstReceiver_1 ?_
  refine lv_iconst (v := 0) C.x C.b dX2_firstReceiver_4 (by decide) ?_
  refine lv_iconst (v := 3) C.x C.b dX2_firstReceiver_5 (by decide) ?_
  refine z_Vv (As := [.int 0, .int 3]) (rest := []) C hw hl (m_X1_get_no hO _ hW.queue hq (by omega) (r := 0) (by omega) (by omega)) ivX2_98 hW.queue.lt (hW.queue.at _ _) rfl rfl ⟨(Nat.le_of_ble_eq_true rfl), (Nat.le_of_ble_eq_true rfl)⟩ (Nat.le_of_ble_eq_true rfl) ⟨Nat.zero_le _, Nat.zero_le _⟩ dX2_firstReceiver_6 (fun H locs hw => ?_)
  exact z_iret C hw dX2_firstReceiver_9 (rfl) (rfl)

set_option maxRecDepth 100000 in
set_option maxHeartbeats 4000000 in
theorem m_X2_canDeliver {G : zG} {N : Nat} {Λ : zLay} {l : Launch} (hO : zOK G l) (z : zM) {b : Nat} (hW : zWo G N Λ b) {S : aS} (hI : wI z b S) (hS : aOK S) (h0 : 0 < S.q.1) : zMet G N Λ l yX2_canDeliver cX2_canDeliver 2 (some .boolean) 2 [.ref (G.h + b)] z (some (.int (if aCan S then 1 else 0))) z := by
  refine zMet_of hO (by decide) (Nat.le_of_ble_eq_true rfl) ?_
  intro pP eE sS mM bB tT cC ls C hw hl
  have hl : lv_has ls 2 [(0, .ref (G.h + b))] := hl
  have hn6 := hS.n6
  have hmq := hS.q.2 0 h0
  have ht6 : S.q.2 0 3 < 6 := by omega
  have hm := hI.m hmq.2.2.2.1
  have hq40 := hS.q.1
  have hom := hS.m hmq.2.2.2.1
  have hsi := hom.sil
  have hlg := hom.log.1
  refine lv_aload_n C.x C.b dX2_canDeliver_0 rfl (lv_at hl 0 rfl) ?_
  refine z_Vv (As := []) (rest := []) C hw hl (m_X2_firstReceiver hO _ hW hI.q hS.q.1 h0) ivX2_102 hW.lt (hW.at _ _) rfl rfl ⟨(Nat.le_of_ble_eq_true rfl), (Nat.le_of_ble_eq_true rfl)⟩ (Nat.le_of_ble_eq_true rfl) ⟨Nat.zero_le _, Nat.zero_le _⟩ dX2_canDeliver_1 (fun H locs hw => ?_)
  refine lv_istore_n (lv' := [(1, .int (nI (S.q.2 0 3))), (0, .ref (G.h + b))]) C.x C.b dX2_canDeliver_4 rfl hl (by decide) rfl (fun ls hl => ?_)
  refine lv_aload_n C.x C.b dX2_canDeliver_5 rfl (lv_at hl 1 rfl) ?_
  refine lv_iload_n C.x C.b dX2_canDeliver_6 rfl (lv_at hl 0 rfl) ?_
  refine z_Vv (As := [.int (nI (S.q.2 0 3))]) (rest := []) C hw hl (m_X2_isMachine hO _ hW hI.n hS.n6 hmq.2.2.2.1) ivX2_105 hW.lt (hW.at _ _) rfl rfl ⟨(Nat.le_of_ble_eq_true rfl), (Nat.le_of_ble_eq_true rfl)⟩ (Nat.le_of_ble_eq_true rfl) ⟨Nat.zero_le _, Nat.zero_le _⟩ dX2_canDeliver_7 (fun H locs hw => ?_)
  refine lv_if_eq (tgt := 29) C.x C.b dX2_canDeliver_10 (by decide) (fun c_10 => absurd c_10 (by decide)) (fun c_10 => ?_)
  refine lv_aload_n C.x C.b dX2_canDeliver_13 rfl (lv_at hl 1 rfl) ?_
  refine lv_aload_n C.x C.b dX2_canDeliver_14 rfl (lv_at hl 1 rfl) ?_
  refine z_get C hw hW.lt (hW.at _ _) flX2_25 rfl dX2_canDeliver_15 ?_
  refine lv_iconst (v := 0) C.x C.b dX2_canDeliver_18 (by decide) ?_
  refine lv_iconst (v := 0) C.x C.b dX2_canDeliver_19 (by decide) ?_
  refine z_Vv (As := [.int 0, .int 0]) (rest := [.ref (G.h + b)]) C hw hl (m_X1_get hO _ hW.queue hI.q.1 hS.q.1 (r := 0) (c := 0) h0 (by omega)) ivX2_98 hW.queue.lt (hW.queue.at _ _) rfl rfl ⟨(Nat.le_of_ble_eq_true rfl), (Nat.le_of_ble_eq_true rfl)⟩ (Nat.le_of_ble_eq_true rfl) ⟨Nat.zero_le _, Nat.zero_le _⟩ dX2_canDeliver_20 (fun H locs hw => ?_)
  refine z_topi (y := nI (S.q.2 0 0)) (hI.q.2 0 h0 0 (by omega)) ?_
  refine z_Vv (As := [.int (nI (S.q.2 0 0))]) (rest := []) C hw hl (m_X2_isMachine hO _ hW hI.n hS.n6 hmq.1) ivX2_105 hW.lt (hW.at _ _) rfl rfl ⟨(Nat.le_of_ble_eq_true rfl), (Nat.le_of_ble_eq_true rfl)⟩ (Nat.le_of_ble_eq_true rfl) ⟨Nat.zero_le _, Nat.zero_le _⟩ dX2_canDeliver_23 (fun H locs hw => ?_)
  refine lv_if_ne (tgt := 31) C.x C.b dX2_canDeliver_26 (by decide) (fun c_26 => ?_) (fun c_26 => absurd c_26 (by decide))
  refine lv_aload_n C.x C.b dX2_canDeliver_31 rfl (lv_at hl 1 rfl) ?_
  refine z_get C hw hW.lt (hW.at _ _) flX2_11 rfl dX2_canDeliver_32 ?_
  refine lv_iload_n C.x C.b dX2_canDeliver_35 rfl (lv_at hl 0 rfl) ?_
  refine z_aaldM (a := G.h + (b + 2 + 8 * (S.q.2 0 3))) C hw hW.lt1 hW.ma (zvin ht6 (by omega)) (by rw [zcl ht6 (by omega)]) dX2_canDeliver_36 ?_
  refine z_pc (pc2 := 37) rfl ?_
  refine z_get C hw (hW.m ht6).lt ((hW.m ht6).at _ _) flX2_108 rfl dX2_canDeliver_37 ?_
  refine z_topi (y := nI (S.m (S.q.2 0 3)).sil) (hm.1.2.1) ?_
  refine lv_if_ne (tgt := 64) C.x C.b dX2_canDeliver_40 (by decide) (fun c_40 => ?_) (fun c_40 => ?_)
  · refine lv_iconst (v := 1) C.x C.b dX2_canDeliver_64 (by decide) ?_
    refine lv_goto (tgt := 69) C.x C.b dX2_canDeliver_65 (by decide) ?_
    exact z_zret C hw dX2_canDeliver_69 (by decide) (by rw [if_pos (aCan_iff.mpr ⟨h0, Or.inl (fun q => c_40 (by rw [q]; rfl))⟩)]) (rfl)
  · refine lv_aload_n C.x C.b dX2_canDeliver_43 rfl (lv_at hl 1 rfl) ?_
    refine z_get C hw hW.lt (hW.at _ _) flX2_11 rfl dX2_canDeliver_44 ?_
    refine lv_iload_n C.x C.b dX2_canDeliver_47 rfl (lv_at hl 0 rfl) ?_
    refine z_aaldM (a := G.h + (b + 2 + 8 * (S.q.2 0 3))) C hw hW.lt1 hW.ma (zvin ht6 (by omega)) (by rw [zcl ht6 (by omega)]) dX2_canDeliver_48 ?_
    refine lv_aload_n C.x C.b dX2_canDeliver_49 rfl (lv_at hl 1 rfl) ?_
    refine z_get C hw hW.lt (hW.at _ _) flX2_25 rfl dX2_canDeliver_50 ?_
    refine z_get C hw hW.queue.lt (hW.queue.at _ _) flX2_85 rfl dX2_canDeliver_53 ?_
    refine z_topi (y := nI S.q.1) (hI.q.1) ?_
    refine lv_iconst (v := 1) C.x C.b dX2_canDeliver_56 (by decide) ?_
    refine lv_isub C.x C.b dX2_canDeliver_57 ?_
    refine z_topi (y := nI (S.q.1 - 1)) (by rw [zlit 1, zsub h0]) ?_
    refine z_Vv (As := [.int (nI (S.q.1 - 1))]) (rest := []) C hw hl (m_X0_hasRoom hO _ (hW.m ht6) hm.2.2.1.1 hlg (q := S.q.1 - 1) (by omega)) ivX2_111 (hW.m ht6).lt ((hW.m ht6).at _ _) rfl rfl ⟨(Nat.le_of_ble_eq_true rfl), (Nat.le_of_ble_eq_true rfl)⟩ (Nat.le_of_ble_eq_true rfl) ⟨Nat.zero_le _, Nat.zero_le _⟩ dX2_canDeliver_58 (fun H locs hw => ?_)
    refine lv_if_eq (tgt := 68) C.x C.b dX2_canDeliver_61 (by decide) (fun c_61 => ?_) (fun c_61 => ?_)
    · refine lv_iconst (v := 0) C.x C.b dX2_canDeliver_68 (by decide) ?_
      exact z_zret C hw dX2_canDeliver_69 (by decide) (by
          have h9 : ¬ (S.m (S.q.2 0 3)).log.1 ≤ 38 := fun q => by rw [if_pos ⟨q, by omega⟩] at c_61; exact absurd c_61 (by decide)
          have h8 := zzero (by omega) c_40
          rw [if_neg (fun q => (aCan_iff.mp q).2.elim (fun w => w h8) h9)]) (rfl)
    · refine lv_iconst (v := 1) C.x C.b dX2_canDeliver_64 (by decide) ?_
      refine lv_goto (tgt := 69) C.x C.b dX2_canDeliver_65 (by decide) ?_
      exact z_zret C hw dX2_canDeliver_69 (by decide) (by
          have h9 : (S.m (S.q.2 0 3)).log.1 ≤ 38 := by
            by_cases q : (S.m (S.q.2 0 3)).log.1 ≤ 38 ∧ S.q.1 - 1 ≤ 39
            · exact q.1
            · rw [if_neg q] at c_61; exact absurd rfl c_61
          rw [if_pos (aCan_iff.mpr ⟨h0, Or.inr h9⟩)]) (rfl)

set_option maxRecDepth 100000 in
set_option maxHeartbeats 4000000 in
theorem m_X2_canDeliver_no {G : zG} {N : Nat} {Λ : zLay} {l : Launch} (hO : zOK G l) (z : zM) {b : Nat} (hW : zWo G N Λ b) {S : aS} (hI : wI z b S) (hS : aOK S) (h0 : S.q.1 = 0) : zMet G N Λ l yX2_canDeliver cX2_canDeliver 2 (some .boolean) 2 [.ref (G.h + b)] z (some (.int 0)) z := by
  refine zMet_of hO (by decide) (Nat.le_of_ble_eq_true rfl) ?_
  intro pP eE sS mM bB tT cC ls C hw hl
  have hl : lv_has ls 2 [(0, .ref (G.h + b))] := hl
  have hq := hI.q.1
  rw [h0] at hq
  refine lv_aload_n C.x C.b dX2_canDeliver_0 rfl (lv_at hl 0 rfl) ?_
  refine z_Vv (As := []) (rest := []) C hw hl (m_X2_firstReceiver_no hO _ hW hq) ivX2_102 hW.lt (hW.at _ _) rfl rfl ⟨(Nat.le_of_ble_eq_true rfl), (Nat.le_of_ble_eq_true rfl)⟩ (Nat.le_of_ble_eq_true rfl) ⟨Nat.zero_le _, Nat.zero_le _⟩ dX2_canDeliver_1 (fun H locs hw => ?_)
  refine lv_istore_n (lv' := [(1, .int (-1)), (0, .ref (G.h + b))]) C.x C.b dX2_canDeliver_4 rfl hl (by decide) rfl (fun ls hl => ?_)
  refine lv_aload_n C.x C.b dX2_canDeliver_5 rfl (lv_at hl 1 rfl) ?_
  refine lv_iload_n C.x C.b dX2_canDeliver_6 rfl (lv_at hl 0 rfl) ?_
  refine z_Vv (As := [.int (-1)]) (rest := []) C hw hl (m_X2_isMachine_no hO _ hW hI.n hS.n6 (by rintro ⟨x, hx, h⟩; have := hS.n6; exact zm1ne (a := x) (by omega) h.symm)) ivX2_105 hW.lt (hW.at _ _) rfl rfl ⟨(Nat.le_of_ble_eq_true rfl), (Nat.le_of_ble_eq_true rfl)⟩ (Nat.le_of_ble_eq_true rfl) ⟨Nat.zero_le _, Nat.zero_le _⟩ dX2_canDeliver_7 (fun H locs hw => ?_)
  refine lv_if_eq (tgt := 29) C.x C.b dX2_canDeliver_10 (by decide) (fun c_10 => ?_) (fun c_10 => absurd (rfl) c_10)
  refine lv_iconst (v := 0) C.x C.b dX2_canDeliver_29 (by decide) ?_
  exact z_zret C hw dX2_canDeliver_30 (by decide) (rfl) (rfl)

set_option maxRecDepth 100000 in
set_option maxHeartbeats 4000000 in
theorem m_X2_addEvidence {G : zG} {N : Nat} {Λ : zLay} {l : Launch} (hO : zOK G l) (z : zM) {b : Nat} (hW : zWo G N Λ b) {k : Nat} (hk : z.1 (b + 52) 3 = nI k) (hk2 : k < 30) {v0 v1 v2 v3 : Int32} : zMet G N Λ l yX2_addEvidence cX2_addEvidence 6 none 1 [.ref (G.h + b), .int v0, .int v1, .int v2, .int v3] z none (row4z z (b + 52) k v0 v1 v2 v3) := by
  refine zMet_of hO (by decide) (Nat.le_of_ble_eq_true rfl) ?_
  intro pP eE sS mM bB tT cC ls C hw hl
  have hl : lv_has ls 6 [(0, .ref (G.h + b)), (1, .int v0), (2, .int v1), (3, .int v2), (4, .int v3)] := hl
  refine lv_aload_n C.x C.b dX2_addEvidence_0 rfl (lv_at hl 0 rfl) ?_
  refine z_get C hw hW.lt (hW.at _ _) flX2_29 rfl dX2_addEvidence_1 ?_
  refine z_Vv (As := []) (rest := []) C hw hl (m_X1_addRow hO _ hW.evid hk (by omega) hk2) ivX2_88 hW.evid.lt (hW.evid.at _ _) rfl rfl ⟨(Nat.le_of_ble_eq_true rfl), (Nat.le_of_ble_eq_true rfl)⟩ (Nat.le_of_ble_eq_true rfl) ⟨Nat.zero_le _, Nat.zero_le _⟩ dX2_addEvidence_4 (fun H locs hw => ?_)
  obtain ⟨z_1, ez_1⟩ : ∃ q_9, q_9 = zi z (b + 52) 3 (nI (k + 1)) := ⟨_, rfl⟩
  have hw : zS G N Λ z_1 sS H locs := by rw [ez_1]; exact hw
  refine lv_istore (lv' := [(5, .int (nI k)), (0, .ref (G.h + b)), (1, .int v0), (2, .int v1), (3, .int v2), (4, .int v3)]) C.x C.b dX2_addEvidence_7 hl (by decide) rfl (fun ls hl => ?_)
  refine lv_aload_n C.x C.b dX2_addEvidence_9 rfl (lv_at hl 1 rfl) ?_
  refine z_get C hw hW.lt (hW.at _ _) flX2_29 rfl dX2_addEvidence_10 ?_
  refine lv_iload C.x C.b dX2_addEvidence_13 (lv_at hl 0 rfl) ?_
  refine lv_iconst (v := 0) C.x C.b dX2_addEvidence_15 (by decide) ?_
  refine lv_iload_n C.x C.b dX2_addEvidence_16 rfl (lv_at hl 2 rfl) ?_
  have hk_1 : z_1.1 (b + 52) 3 = nI (k + 1) := by rw [ez_1, zi_at, if_pos ⟨rfl, rfl⟩]
  refine z_V0 (As := [.int (nI k), .int 0, .int v0]) (rest := []) C hw hl (m_X1_set hO _ hW.evid hk_1 (by omega) (r := k) (c := 0) (by omega) (by omega)) ivX2_92 hW.evid.lt (hW.evid.at _ _) rfl rfl ⟨(Nat.le_of_ble_eq_true rfl), (Nat.le_of_ble_eq_true rfl)⟩ (Nat.le_of_ble_eq_true rfl) ⟨Nat.zero_le _, Nat.zero_le _⟩ dX2_addEvidence_17 (fun H locs hw => ?_)
  obtain ⟨z_2, ez_2⟩ : ∃ q_9, q_9 = zi z_1 (b + 52 + 1) (k * 4 + 0) (v0) := ⟨_, rfl⟩
  have hw : zS G N Λ z_2 sS H locs := by rw [ez_2]; exact hw
  refine lv_aload_n C.x C.b dX2_addEvidence_20 rfl (lv_at hl 1 rfl) ?_
  refine z_get C hw hW.lt (hW.at _ _) flX2_29 rfl dX2_addEvidence_21 ?_
  refine lv_iload C.x C.b dX2_addEvidence_24 (lv_at hl 0 rfl) ?_
  refine lv_iconst (v := 1) C.x C.b dX2_addEvidence_26 (by decide) ?_
  refine lv_iload_n C.x C.b dX2_addEvidence_27 rfl (lv_at hl 3 rfl) ?_
  have hk_2 : z_2.1 (b + 52) 3 = nI (k + 1) := by rw [ez_2, zi_at, if_neg (by omega), hk_1]
  refine z_V0 (As := [.int (nI k), .int 1, .int v1]) (rest := []) C hw hl (m_X1_set hO _ hW.evid hk_2 (by omega) (r := k) (c := 1) (by omega) (by omega)) ivX2_92 hW.evid.lt (hW.evid.at _ _) rfl rfl ⟨(Nat.le_of_ble_eq_true rfl), (Nat.le_of_ble_eq_true rfl)⟩ (Nat.le_of_ble_eq_true rfl) ⟨Nat.zero_le _, Nat.zero_le _⟩ dX2_addEvidence_28 (fun H locs hw => ?_)
  obtain ⟨z_3, ez_3⟩ : ∃ q_9, q_9 = zi z_2 (b + 52 + 1) (k * 4 + 1) (v1) := ⟨_, rfl⟩
  have hw : zS G N Λ z_3 sS H locs := by rw [ez_3]; exact hw
  refine lv_aload_n C.x C.b dX2_addEvidence_31 rfl (lv_at hl 1 rfl) ?_
  refine z_get C hw hW.lt (hW.at _ _) flX2_29 rfl dX2_addEvidence_32 ?_
  refine lv_iload C.x C.b dX2_addEvidence_35 (lv_at hl 0 rfl) ?_
  refine z_pc (pc2 := 37) rfl ?_
  refine lv_iconst (v := 2) C.x C.b dX2_addEvidence_37 (by decide) ?_
  refine lv_iload_n C.x C.b dX2_addEvidence_38 rfl (lv_at hl 4 rfl) ?_
  have hk_3 : z_3.1 (b + 52) 3 = nI (k + 1) := by rw [ez_3, zi_at, if_neg (by omega), hk_2]
  refine z_V0 (As := [.int (nI k), .int 2, .int v2]) (rest := []) C hw hl (m_X1_set hO _ hW.evid hk_3 (by omega) (r := k) (c := 2) (by omega) (by omega)) ivX2_92 hW.evid.lt (hW.evid.at _ _) rfl rfl ⟨(Nat.le_of_ble_eq_true rfl), (Nat.le_of_ble_eq_true rfl)⟩ (Nat.le_of_ble_eq_true rfl) ⟨Nat.zero_le _, Nat.zero_le _⟩ dX2_addEvidence_39 (fun H locs hw => ?_)
  obtain ⟨z_4, ez_4⟩ : ∃ q_9, q_9 = zi z_3 (b + 52 + 1) (k * 4 + 2) (v2) := ⟨_, rfl⟩
  have hw : zS G N Λ z_4 sS H locs := by rw [ez_4]; exact hw
  refine lv_aload_n C.x C.b dX2_addEvidence_42 rfl (lv_at hl 1 rfl) ?_
  refine z_get C hw hW.lt (hW.at _ _) flX2_29 rfl dX2_addEvidence_43 ?_
  refine lv_iload C.x C.b dX2_addEvidence_46 (lv_at hl 0 rfl) ?_
  refine lv_iconst (v := 3) C.x C.b dX2_addEvidence_48 (by decide) ?_
  refine lv_iload C.x C.b dX2_addEvidence_49 (lv_at hl 5 rfl) ?_
  have hk_4 : z_4.1 (b + 52) 3 = nI (k + 1) := by rw [ez_4, zi_at, if_neg (by omega), hk_3]
  refine z_V0 (As := [.int (nI k), .int 3, .int v3]) (rest := []) C hw hl (m_X1_set hO _ hW.evid hk_4 (by omega) (r := k) (c := 3) (by omega) (by omega)) ivX2_92 hW.evid.lt (hW.evid.at _ _) rfl rfl ⟨(Nat.le_of_ble_eq_true rfl), (Nat.le_of_ble_eq_true rfl)⟩ (Nat.le_of_ble_eq_true rfl) ⟨Nat.zero_le _, Nat.zero_le _⟩ dX2_addEvidence_51 (fun H locs hw => ?_)
  obtain ⟨z_5, ez_5⟩ : ∃ q_9, q_9 = zi z_4 (b + 52 + 1) (k * 4 + 3) (v3) := ⟨_, rfl⟩
  have hw : zS G N Λ z_5 sS H locs := by rw [ez_5]; exact hw
  exact z_vret C hw dX2_addEvidence_54 (rfl) (by rw [ez_5, ez_4, ez_3, ez_2, ez_1]; rfl)

set_option maxRecDepth 100000 in
set_option maxHeartbeats 4000000 in
theorem m_X2_beliedEntry {G : zG} {N : Nat} {Λ : zLay} {l : Launch} (hO : zOK G l) (z : zM) {b : Nat} (hW : zWo G N Λ b) {S : aS} (hI : wI z b S) (hS : aOK S) {x : Nat} (hx : x < S.n) (hx6 : x < 6) : zMet G N Λ l yX2_beliedEntry cX2_beliedEntry 4 (some .int) 3 [.ref (G.h + b), .ref (G.h + (b + 2 + 8 * x))] z (some (.int (oI (belA S x S.n 0)))) z := by
  refine zMet_of hO (by decide) (Nat.le_of_ble_eq_true rfl) ?_
  intro pP eE sS mM bB tT cC ls C hw hl
  have hl : lv_has ls 4 [(0, .ref (G.h + b)), (1, .ref (G.h + (b + 2 + 8 * x)))] := hl
  have hn6 := hS.n6
  have hmx := hI.m hx
  have hox := hS.m hx
  refine lv_iconst (v := 0) C.x C.b dX2_beliedEntry_0 (by decide) ?_
  refine lv_istore_n (lv' := [(2, .int 0), (0, .ref (G.h + b)), (1, .ref (G.h + (b + 2 + 8 * x)))]) C.x C.b dX2_beliedEntry_1 rfl hl (by decide) rfl (fun ls hl => ?_)
  have loop : ∀ (d : Nat) (y : Nat) (H : Heap) (locs : List Loc) (ls : Array Slot) (hy : y + d = S.n) (hb : belA S x S.n 0 = belA S x d y), zS G N Λ z sS H locs → lv_has ls 4 [(0, .ref (G.h + b)), (1, .ref (G.h + (b + 2 + 8 * x))), (2, .int (nI y))] → W pP l eE (zR 3) sS mM ([.ref (G.h + b), .ref (G.h + (b + 2 + 8 * x))] : List Value).toArray bB tT cC H locs 0 0 (MQ bB (zQc G N Λ (some (.int (oI (belA S x S.n 0)))) z) ([.ref (G.h + b), .ref (G.h + (b + 2 + 8 * x))] : List Value).toArray sS 0 0 (zA G)) (F0 mM 2 ls []) := by
    intro d
    induction d with
    | zero =>
      intro y H locs ls hy hb hw hl
      refine lv_iload_n C.x C.b dX2_beliedEntry_2 rfl (lv_at hl 2 rfl) ?_
      refine lv_aload_n C.x C.b dX2_beliedEntry_3 rfl (lv_at hl 0 rfl) ?_
      refine z_get C hw hW.lt (hW.at _ _) flX2_32 rfl dX2_beliedEntry_4 ?_
      refine lv_icmp_ge (tgt := 46) C.x C.b dX2_beliedEntry_7 (by decide) (fun c_7 => ?_) (fun c_7 => absurd (by rw [hI.n]; exact zle (by omega) (by omega)) c_7)
      refine lv_iconst (v := -1) C.x C.b dX2_beliedEntry_46 (by decide) ?_
      exact z_iret C hw dX2_beliedEntry_47 (by rw [hb]; rfl) (rfl)
    | succ d ih =>
      intro y H locs ls hy hb hw hl
      refine lv_iload_n C.x C.b dX2_beliedEntry_2 rfl (lv_at hl 2 rfl) ?_
      refine lv_aload_n C.x C.b dX2_beliedEntry_3 rfl (lv_at hl 0 rfl) ?_
      refine z_get C hw hW.lt (hW.at _ _) flX2_32 rfl dX2_beliedEntry_4 ?_
      refine lv_icmp_ge (tgt := 46) C.x C.b dX2_beliedEntry_7 (by decide) (fun c_7 => absurd c_7 (by rw [hI.n]; exact znle (by omega) (by omega))) (fun c_7 => ?_)
      have hyn : y < S.n := by omega
      have hy6 : y < 6 := by omega
      have hmy := hI.m hyn
      have hoy := hS.m hyn
      have hsy := hoy.sil
      refine lv_aload_n C.x C.b dX2_beliedEntry_10 rfl (lv_at hl 0 rfl) ?_
      refine z_get C hw hW.lt (hW.at _ _) flX2_11 rfl dX2_beliedEntry_11 ?_
      refine lv_iload_n C.x C.b dX2_beliedEntry_14 rfl (lv_at hl 2 rfl) ?_
      refine z_aaldM (a := G.h + (b + 2 + 8 * y)) C hw hW.lt1 hW.ma (zvin hy6 (by omega)) (by rw [zcl hy6 (by omega)]) dX2_beliedEntry_15 ?_
      refine z_get C hw (hW.m hy6).lt ((hW.m hy6).at _ _) flX2_108 rfl dX2_beliedEntry_16 ?_
      refine z_topi (y := nI (S.m y).sil) (hmy.1.2.1) ?_
      refine lv_if_ne (tgt := 40) C.x C.b dX2_beliedEntry_19 (by decide) (fun c_19 => ?_) (fun c_19 => ?_)
      · refine lv_iinc (v := nI y + 1) (lv' := [(2, .int (nI y + 1)), (0, .ref (G.h + b)), (1, .ref (G.h + (b + 2 + 8 * x)))]) C.x C.b dX2_beliedEntry_40 hl (k := 2) rfl rfl (by decide) rfl (fun ls hl => ?_)
        have hl : lv_has ls 4 [(2, .int (nI (y + 1))), (0, .ref (G.h + b)), (1, .ref (G.h + (b + 2 + 8 * x)))] := by
          have e9 : nI y + 1 = nI (y + 1) := nI_1 y
          rw [← e9]; exact hl
        refine lv_goto (tgt := 2) C.x C.b dX2_beliedEntry_43 (by decide) ?_
        exact ih (y + 1) _ _ _ (by omega) (by rw [hb, belA, if_neg (fun q => c_19 (by rw [q]; rfl))]) hw (lv_sub hl [1, 2, 0] rfl)
      · refine lv_aload_n C.x C.b dX2_beliedEntry_22 rfl (lv_at hl 0 rfl) ?_
        refine z_get C hw hW.lt (hW.at _ _) flX2_11 rfl dX2_beliedEntry_23 ?_
        refine lv_iload_n C.x C.b dX2_beliedEntry_26 rfl (lv_at hl 2 rfl) ?_
        refine z_aaldM (a := G.h + (b + 2 + 8 * y)) C hw hW.lt1 hW.ma (zvin hy6 (by omega)) (by rw [zcl hy6 (by omega)]) dX2_beliedEntry_27 ?_
        refine lv_aload_n C.x C.b dX2_beliedEntry_28 rfl (lv_at hl 1 rfl) ?_
        refine z_Vv (As := [.ref (G.h + (b + 2 + 8 * x))]) (rest := []) C hw hl (m_X0_beliedEntryOf hO _ (hW.m hy6) (hW.m hx6) hmy.2.2.2.1 hoy.held.1 (hoy.held.b hn6) hmx.2.2.1 hox.log.1) ivX2_153 (hW.m hy6).lt ((hW.m hy6).at _ _) rfl rfl ⟨(Nat.le_of_ble_eq_true rfl), (Nat.le_of_ble_eq_true rfl)⟩ (Nat.le_of_ble_eq_true rfl) ⟨Nat.zero_le _, Nat.zero_le _⟩ dX2_beliedEntry_29 (fun H locs hw => ?_)
        refine lv_istore_n (lv' := [(3, .int (oI (bel (S.m y).held (S.m x).log x (S.m y).held.1 0))), (0, .ref (G.h + b)), (1, .ref (G.h + (b + 2 + 8 * x))), (2, .int (nI y))]) C.x C.b dX2_beliedEntry_32 rfl hl (by decide) rfl (fun ls hl => ?_)
        refine lv_iload_n C.x C.b dX2_beliedEntry_33 rfl (lv_at hl 0 rfl) ?_
        refine lv_iconst (v := -1) C.x C.b dX2_beliedEntry_34 (by decide) ?_
        refine z_pc (pc2 := 35) rfl ?_
        refine lv_icmp_eq (tgt := 40) C.x C.b dX2_beliedEntry_35 (by decide) (fun c_35 => ?_) (fun c_35 => ?_)
        · have h9 : bel (S.m y).held (S.m x).log x (S.m y).held.1 0 = none := oI_none c_35 (fun e9 h8 => by have := bel_lt (fun j hj => (hoy.held.2 j hj).2.1) _ _ _ (by omega) h8; omega)
          refine lv_iinc (v := nI y + 1) (lv' := [(2, .int (nI y + 1)), (3, .int (oI (bel (S.m y).held (S.m x).log x (S.m y).held.1 0))), (0, .ref (G.h + b)), (1, .ref (G.h + (b + 2 + 8 * x)))]) C.x C.b dX2_beliedEntry_40 hl (k := 3) rfl rfl (by decide) rfl (fun ls hl => ?_)
          have hl : lv_has ls 4 [(2, .int (nI (y + 1))), (3, .int (oI (bel (S.m y).held (S.m x).log x (S.m y).held.1 0))), (0, .ref (G.h + b)), (1, .ref (G.h + (b + 2 + 8 * x)))] := by
            have e9 : nI y + 1 = nI (y + 1) := nI_1 y
            rw [← e9]; exact hl
          refine lv_goto (tgt := 2) C.x C.b dX2_beliedEntry_43 (by decide) ?_
          exact ih (y + 1) _ _ _ (by omega) (by rw [hb, belA, if_pos (zzero (by omega) c_19), h9]) hw (lv_sub hl [2, 3, 0] rfl)
        · obtain ⟨e9, h9⟩ : ∃ e9, bel (S.m y).held (S.m x).log x (S.m y).held.1 0 = some e9 := by
            cases h8 : bel (S.m y).held (S.m x).log x (S.m y).held.1 0 with
            | none => rw [h8] at c_35; exact absurd rfl c_35
            | some e9 => exact ⟨e9, rfl⟩
          refine lv_iload_n C.x C.b dX2_beliedEntry_38 rfl (lv_at hl 0 rfl) ?_
          exact z_iret C hw dX2_beliedEntry_39 (by rw [hb, belA, if_pos (zzero (by omega) c_19), h9]) (rfl)
  exact loop S.n 0 _ _ _ (by omega) rfl hw (lv_sub hl [1, 2, 0] rfl)

set_option maxRecDepth 100000 in
set_option maxHeartbeats 4000000 in
theorem m_X2_judge {G : zG} {N : Nat} {Λ : zLay} {l : Launch} (hO : zOK G l) (z : zM) {b : Nat} (hW : zWo G N Λ b) {S : aS} (hI : wI z b S) (hS : aOK S) {w x : Nat} (hx : x < S.n) (hx6 : x < 6) (hw6 : w < 6) (hev : ¬ (S.m x).ver w = 2 → S.ev.1 < 30) : zMet G N Λ l yX2_judge cX2_judge 4 (some .int) 4 [.ref (G.h + b), .int (nI w), .ref (G.h + (b + 2 + 8 * x))] z (some (.int (nI (jdg S w x).1))) (jzo z (b + 52) S.ev.1 w x (jdg S w x).2) := by
  refine zMet_of hO (by decide) (Nat.le_of_ble_eq_true rfl) ?_
  intro pP eE sS mM bB tT cC ls C hw hl
  have hl : lv_has ls 4 [(0, .ref (G.h + b)), (1, .int (nI w)), (2, .ref (G.h + (b + 2 + 8 * x)))] := hl
  have hn6 := hS.n6
  have hmx := hI.m hx
  have hox := hS.m hx
  have hve := hox.ver w
  have hsi := hox.sil
  have hpd := hox.pend.1
  refine lv_aload_n C.x C.b dX2_judge_0 rfl (lv_at hl 2 rfl) ?_
  refine z_get C hw (hW.m hx6).lt ((hW.m hx6).at _ _) flX2_134 rfl dX2_judge_1 ?_
  refine lv_iload_n C.x C.b dX2_judge_4 rfl (lv_at hl 1 rfl) ?_
  refine z_iald C hw ((hW.m hx6).lt1) ((hW.m hx6).ver) (zvin hw6 (by omega)) dX2_judge_5 ?_
  refine z_topi (y := nI ((S.m x).ver w)) (by rw [zcl hw6 (by omega)]; exact hmx.2.1 w hw6) ?_
  refine lv_iconst (v := 2) C.x C.b dX2_judge_6 (by decide) ?_
  refine lv_icmp_ne (tgt := 12) C.x C.b dX2_judge_7 (by decide) (fun c_7 => ?_) (fun c_7 => ?_)
  · have hv2 : ¬ (S.m x).ver w = 2 := fun q => c_7 (by rw [q]; rfl)
    refine lv_aload_n C.x C.b dX2_judge_12 rfl (lv_at hl 2 rfl) ?_
    refine z_get C hw (hW.m hx6).lt ((hW.m hx6).at _ _) flX2_108 rfl dX2_judge_13 ?_
    refine z_topi (y := nI (S.m x).sil) (hmx.1.2.1) ?_
    refine lv_if_eq (tgt := 21) C.x C.b dX2_judge_16 (by decide) (fun c_16 => ?_) (fun c_16 => ?_)
    · have hs0 := zzero (by omega) c_16
      refine lv_aload_n C.x C.b dX2_judge_21 rfl (lv_at hl 0 rfl) ?_
      refine lv_aload_n C.x C.b dX2_judge_22 rfl (lv_at hl 2 rfl) ?_
      refine z_Vv (As := [.ref (G.h + (b + 2 + 8 * x))]) (rest := []) C hw hl (m_X2_beliedEntry hO _ hW hI hS hx hx6) ivX2_142 hW.lt (hW.at _ _) rfl rfl ⟨(Nat.le_of_ble_eq_true rfl), (Nat.le_of_ble_eq_true rfl)⟩ (Nat.le_of_ble_eq_true rfl) ⟨Nat.zero_le _, Nat.zero_le _⟩ dX2_judge_23 (fun H locs hw => ?_)
      refine lv_istore_n (lv' := [(3, .int (oI (belA S x S.n 0))), (0, .ref (G.h + b)), (1, .int (nI w)), (2, .ref (G.h + (b + 2 + 8 * x)))]) C.x C.b dX2_judge_26 rfl hl (by decide) rfl (fun ls hl => ?_)
      refine lv_iload_n C.x C.b dX2_judge_27 rfl (lv_at hl 0 rfl) ?_
      refine lv_iconst (v := -1) C.x C.b dX2_judge_28 (by decide) ?_
      refine lv_icmp_eq (tgt := 45) C.x C.b dX2_judge_29 (by decide) (fun c_29 => ?_) (fun c_29 => ?_)
      · have h9 : belA S x S.n 0 = none := oI_none c_29 (fun e9 h8 => by have := belA_lt hS _ _ _ (by omega) h8; omega)
        refine lv_aload_n C.x C.b dX2_judge_45 rfl (lv_at hl 3 rfl) ?_
        refine lv_aload_n C.x C.b dX2_judge_46 rfl (lv_at hl 1 rfl) ?_
        refine z_get C hw hW.lt (hW.at _ _) flX2_32 rfl dX2_judge_47 ?_
        refine z_topi (y := nI S.n) (hI.n) ?_
        refine z_pc (pc2 := 50) rfl ?_
        refine z_Vv (As := [.int (nI S.n)]) (rest := []) C hw hl (m_X0_replayFault hO _ (hW.m hx6) hmx.2.2.1.1 hox.log.1 hmx.2.2.1.2.1 (hox.log.row hn6) hS.n2 hS.n6 hx) ivX2_150 (hW.m hx6).lt ((hW.m hx6).at _ _) rfl rfl ⟨(Nat.le_of_ble_eq_true rfl), (Nat.le_of_ble_eq_true rfl)⟩ (Nat.le_of_ble_eq_true rfl) ⟨Nat.zero_le _, Nat.zero_le _⟩ dX2_judge_50 (fun H locs hw => ?_)
        refine lv_istore_n (lv' := [(3, .int (oI (rpl (S.m x).log.2 (S.m x).log.1 x S.n ((S.m x).log.1 + 1) 0 x))), (0, .ref (G.h + b)), (1, .int (nI w)), (2, .ref (G.h + (b + 2 + 8 * x)))]) C.x C.b dX2_judge_53 rfl hl (by decide) rfl (fun ls hl => ?_)
        refine lv_iload_n C.x C.b dX2_judge_54 rfl (lv_at hl 0 rfl) ?_
        refine lv_iconst (v := -1) C.x C.b dX2_judge_55 (by decide) ?_
        refine lv_icmp_eq (tgt := 72) C.x C.b dX2_judge_56 (by decide) (fun c_56 => ?_) (fun c_56 => ?_)
        · have h7 : rpl (S.m x).log.2 (S.m x).log.1 x S.n ((S.m x).log.1 + 1) 0 x = none := oI_none c_56 (fun e9 h8 => by have := rpl_le _ _ _ _ h8; have := hox.log.1; omega)
          have hj : jdg S w x = (if 0 < (S.m x).pend.1 then 1 else 0, none) := by rw [jdg, if_neg hv2, if_neg (fun q => q hs0), h9]; show jRe S w x = _; rw [jRe, h7]
          refine lv_aload_n C.x C.b dX2_judge_72 rfl (lv_at hl 3 rfl) ?_
          refine z_get C hw (hW.m hx6).lt ((hW.m hx6).at _ _) flX2_114 rfl dX2_judge_73 ?_
          refine z_get C hw (hW.m hx6).pend.lt ((hW.m hx6).pend.at _ _) flX2_85 rfl dX2_judge_76 ?_
          refine z_topi (y := nI (S.m x).pend.1) (hmx.2.2.2.2.1) ?_
          refine lv_if_le (tgt := 86) C.x C.b dX2_judge_79 (by decide) (fun c_79 => ?_) (fun c_79 => ?_)
          · refine lv_iconst (v := 0) C.x C.b dX2_judge_86 (by decide) ?_
            exact z_iret C hw dX2_judge_87 (by rw [hj, if_neg (fun q => absurd c_79 (nI_nle q (by omega)))]; rfl) (by rw [hj]; rfl)
          · refine lv_iconst (v := 1) C.x C.b dX2_judge_82 (by decide) ?_
            refine lv_goto (tgt := 87) C.x C.b dX2_judge_83 (by decide) ?_
            exact z_iret C hw dX2_judge_87 (by rw [hj, if_pos ((nI_ltI (a := 0) (by omega) (by omega)).mp (Int32.not_le.mp c_79))]; rfl) (by rw [hj]; rfl)
        · obtain ⟨e9, h7⟩ : ∃ e9, rpl (S.m x).log.2 (S.m x).log.1 x S.n ((S.m x).log.1 + 1) 0 x = some e9 := by
            cases h8 : rpl (S.m x).log.2 (S.m x).log.1 x S.n ((S.m x).log.1 + 1) 0 x with
            | none => rw [h8] at c_56; exact absurd rfl c_56
            | some e9 => exact ⟨e9, rfl⟩
          have hj : jdg S w x = (2, some (1, e9)) := by rw [jdg, if_neg hv2, if_neg (fun q => q hs0), h9]; show jRe S w x = _; rw [jRe, h7]
          refine lv_aload_n C.x C.b dX2_judge_59 rfl (lv_at hl 1 rfl) ?_
          refine lv_iconst (v := 1) C.x C.b dX2_judge_60 (by decide) ?_
          refine lv_aload_n C.x C.b dX2_judge_61 rfl (lv_at hl 3 rfl) ?_
          refine z_get C hw (hW.m hx6).lt ((hW.m hx6).at _ _) flX2_68 rfl dX2_judge_62 ?_
          refine lv_iload_n C.x C.b dX2_judge_65 rfl (lv_at hl 2 rfl) ?_
          refine lv_iload_n C.x C.b dX2_judge_66 rfl (lv_at hl 0 rfl) ?_
          refine z_topi (y := nI e9) (by rw [h7]; rfl) ?_
          refine z_V0 (As := [.int 1, .int (nI x), .int (nI w), .int (nI e9)]) (rest := []) C hw hl (m_X2_addEvidence hO _ hW hI.e.1 (hev hv2)) ivX2_146 hW.lt (hW.at _ _) rfl rfl ⟨(Nat.le_of_ble_eq_true rfl), (Nat.le_of_ble_eq_true rfl)⟩ (Nat.le_of_ble_eq_true rfl) ⟨Nat.zero_le _, Nat.zero_le _⟩ dX2_judge_67 (fun H locs hw => ?_)
          obtain ⟨z_1, ez_1⟩ : ∃ q_9, q_9 = row4z z (b + 52) S.ev.1 1 (nI x) (nI w) (nI e9) := ⟨_, rfl⟩
          have hw : zS G N Λ z_1 sS H locs := by rw [ez_1]; exact hw
          refine lv_iconst (v := 2) C.x C.b dX2_judge_70 (by decide) ?_
          exact z_iret C hw dX2_judge_71 (by rw [hj]; rfl) (by rw [hj, ez_1]; rfl)
      · obtain ⟨e9, h9⟩ : ∃ e9, belA S x S.n 0 = some e9 := by
          cases h8 : belA S x S.n 0 with
          | none => rw [h8] at c_29; exact absurd rfl c_29
          | some e9 => exact ⟨e9, rfl⟩
        have hj : jdg S w x = (2, some (0, e9)) := by rw [jdg, if_neg hv2, if_neg (fun q => q hs0), h9]
        refine lv_aload_n C.x C.b dX2_judge_32 rfl (lv_at hl 1 rfl) ?_
        refine lv_iconst (v := 0) C.x C.b dX2_judge_33 (by decide) ?_
        refine lv_aload_n C.x C.b dX2_judge_34 rfl (lv_at hl 3 rfl) ?_
        refine z_pc (pc2 := 35) rfl ?_
        refine z_get C hw (hW.m hx6).lt ((hW.m hx6).at _ _) flX2_68 rfl dX2_judge_35 ?_
        refine lv_iload_n C.x C.b dX2_judge_38 rfl (lv_at hl 2 rfl) ?_
        refine lv_iload_n C.x C.b dX2_judge_39 rfl (lv_at hl 0 rfl) ?_
        refine z_topi (y := nI e9) (by rw [h9]; rfl) ?_
        refine z_V0 (As := [.int 0, .int (nI x), .int (nI w), .int (nI e9)]) (rest := []) C hw hl (m_X2_addEvidence hO _ hW hI.e.1 (hev hv2)) ivX2_146 hW.lt (hW.at _ _) rfl rfl ⟨(Nat.le_of_ble_eq_true rfl), (Nat.le_of_ble_eq_true rfl)⟩ (Nat.le_of_ble_eq_true rfl) ⟨Nat.zero_le _, Nat.zero_le _⟩ dX2_judge_40 (fun H locs hw => ?_)
        obtain ⟨z_2, ez_2⟩ : ∃ q_9, q_9 = row4z z (b + 52) S.ev.1 0 (nI x) (nI w) (nI e9) := ⟨_, rfl⟩
        have hw : zS G N Λ z_2 sS H locs := by rw [ez_2]; exact hw
        refine lv_iconst (v := 2) C.x C.b dX2_judge_43 (by decide) ?_
        exact z_iret C hw dX2_judge_44 (by rw [hj]; rfl) (by rw [hj, ez_2]; rfl)
    · have hj : jdg S w x = (1, none) := by rw [jdg, if_neg hv2, if_pos (fun q => c_16 (by rw [q]; rfl))]
      refine lv_iconst (v := 1) C.x C.b dX2_judge_19 (by decide) ?_
      exact z_iret C hw dX2_judge_20 (by rw [hj]; rfl) (by rw [hj]; rfl)
  · have hj : jdg S w x = (2, none) := by rw [jdg, if_pos ((nI_eq (b := 2) (by omega) (by omega)).mp c_7)]
    refine lv_iconst (v := 2) C.x C.b dX2_judge_10 (by decide) ?_
    exact z_iret C hw dX2_judge_11 (by rw [hj]; rfl) (by rw [hj]; rfl)

set_option maxRecDepth 100000 in
set_option maxHeartbeats 4000000 in
theorem m_X2_someWitnessSays {G : zG} {N : Nat} {Λ : zLay} {l : Launch} (hO : zOK G l) (z : zM) {b : Nat} (hW : zWo G N Λ b) {S : aS} (hI : wI z b S) (hS : aOK S) {x v : Nat} (hx : x < S.n) (hx6 : x < 6) (hv : v ≤ 2) : zMet G N Λ l yX2_someWitnessSays cX2_someWitnessSays 4 (some .boolean) 1 [.ref (G.h + b), .ref (G.h + (b + 2 + 8 * x)), .int (nI v)] z (some (.int (swS S x v S.n 0))) z := by
  refine zMet_of hO (by decide) (Nat.le_of_ble_eq_true rfl) ?_
  intro pP eE sS mM bB tT cC ls C hw hl
  have hl : lv_has ls 4 [(0, .ref (G.h + b)), (1, .ref (G.h + (b + 2 + 8 * x))), (2, .int (nI v))] := hl
  have hn6 := hS.n6
  have hmx := hI.m hx
  have hox := hS.m hx
  refine lv_iconst (v := 0) C.x C.b dX2_someWitnessSays_0 (by decide) ?_
  refine lv_istore_n (lv' := [(3, .int 0), (0, .ref (G.h + b)), (1, .ref (G.h + (b + 2 + 8 * x))), (2, .int (nI v))]) C.x C.b dX2_someWitnessSays_1 rfl hl (by decide) rfl (fun ls hl => ?_)
  have loop : ∀ (d : Nat) (w : Nat) (H : Heap) (locs : List Loc) (ls : Array Slot) (hwn : w + d = S.n) (hb : swS S x v S.n 0 = swS S x v d w), zS G N Λ z sS H locs → lv_has ls 4 [(0, .ref (G.h + b)), (1, .ref (G.h + (b + 2 + 8 * x))), (2, .int (nI v)), (3, .int (nI w))] → W pP l eE (zR 1) sS mM ([.ref (G.h + b), .ref (G.h + (b + 2 + 8 * x)), .int (nI v)] : List Value).toArray bB tT cC H locs 0 0 (MQ bB (zQc G N Λ (some (.int (swS S x v S.n 0))) z) ([.ref (G.h + b), .ref (G.h + (b + 2 + 8 * x)), .int (nI v)] : List Value).toArray sS 0 0 (zA G)) (F0 mM 2 ls []) := by
    intro d
    induction d with
    | zero =>
      intro w H locs ls hwn hb hw hl
      refine lv_iload_n C.x C.b dX2_someWitnessSays_2 rfl (lv_at hl 3 rfl) ?_
      refine lv_aload_n C.x C.b dX2_someWitnessSays_3 rfl (lv_at hl 0 rfl) ?_
      refine z_get C hw hW.lt (hW.at _ _) flX2_32 rfl dX2_someWitnessSays_4 ?_
      refine lv_icmp_ge (tgt := 36) C.x C.b dX2_someWitnessSays_7 (by decide) (fun c_7 => ?_) (fun c_7 => absurd (by rw [hI.n]; exact zle (by omega) (by omega)) c_7)
      refine lv_iconst (v := 0) C.x C.b dX2_someWitnessSays_36 (by decide) ?_
      exact z_zret C hw dX2_someWitnessSays_37 (by decide) (by rw [hb]; rfl) (rfl)
    | succ d ih =>
      intro w H locs ls hwn hb hw hl
      refine lv_iload_n C.x C.b dX2_someWitnessSays_2 rfl (lv_at hl 3 rfl) ?_
      refine lv_aload_n C.x C.b dX2_someWitnessSays_3 rfl (lv_at hl 0 rfl) ?_
      refine z_get C hw hW.lt (hW.at _ _) flX2_32 rfl dX2_someWitnessSays_4 ?_
      refine lv_icmp_ge (tgt := 36) C.x C.b dX2_someWitnessSays_7 (by decide) (fun c_7 => absurd c_7 (by rw [hI.n]; exact znle (by omega) (by omega))) (fun c_7 => ?_)
      have hw6 : w < 6 := by omega
      have hve := hox.ver w
      refine lv_aload_n C.x C.b dX2_someWitnessSays_10 rfl (lv_at hl 1 rfl) ?_
      refine lv_iload_n C.x C.b dX2_someWitnessSays_11 rfl (lv_at hl 3 rfl) ?_
      refine z_Vv (As := [.int (nI w)]) (rest := []) C hw hl (m_X0_hasWitness hO _ (hW.m hx6) hmx.1.2.2.2 hw6) ivX2_131 (hW.m hx6).lt ((hW.m hx6).at _ _) rfl rfl ⟨(Nat.le_of_ble_eq_true rfl), (Nat.le_of_ble_eq_true rfl)⟩ (Nat.le_of_ble_eq_true rfl) ⟨Nat.zero_le _, Nat.zero_le _⟩ dX2_someWitnessSays_12 (fun H locs hw => ?_)
      refine lv_if_eq (tgt := 30) C.x C.b dX2_someWitnessSays_15 (by decide) (fun c_15 => ?_) (fun c_15 => ?_)
      · refine lv_iinc (v := nI w + 1) (lv' := [(3, .int (nI w + 1)), (0, .ref (G.h + b)), (1, .ref (G.h + (b + 2 + 8 * x))), (2, .int (nI v))]) C.x C.b dX2_someWitnessSays_30 hl (k := 3) rfl rfl (by decide) rfl (fun ls hl => ?_)
        have hl : lv_has ls 4 [(3, .int (nI (w + 1))), (0, .ref (G.h + b)), (1, .ref (G.h + (b + 2 + 8 * x))), (2, .int (nI v))] := by
          have e9 : nI w + 1 = nI (w + 1) := nI_1 w
          rw [← e9]; exact hl
        refine lv_goto (tgt := 2) C.x C.b dX2_someWitnessSays_33 (by decide) ?_
        exact ih (w + 1) _ _ _ (by omega) (by rw [hb, swS, if_neg (fun q => by rw [if_pos q.1] at c_15; exact absurd c_15 (by decide))]) hw (lv_sub hl [1, 2, 3, 0] rfl)
      · have hb1 : (S.m x).wit.testBit w = true := by
          cases h8 : (S.m x).wit.testBit w with
          | true => rfl
          | false => rw [h8] at c_15; exact absurd rfl c_15
        refine lv_aload_n C.x C.b dX2_someWitnessSays_18 rfl (lv_at hl 1 rfl) ?_
        refine z_get C hw (hW.m hx6).lt ((hW.m hx6).at _ _) flX2_134 rfl dX2_someWitnessSays_19 ?_
        refine lv_iload_n C.x C.b dX2_someWitnessSays_22 rfl (lv_at hl 3 rfl) ?_
        refine z_iald C hw ((hW.m hx6).lt1) ((hW.m hx6).ver) (zvin hw6 (by omega)) dX2_someWitnessSays_23 ?_
        refine z_topi (y := nI ((S.m x).ver w)) (by rw [zcl hw6 (by omega)]; exact hmx.2.1 w hw6) ?_
        refine lv_iload_n C.x C.b dX2_someWitnessSays_24 rfl (lv_at hl 2 rfl) ?_
        refine lv_icmp_ne (tgt := 30) C.x C.b dX2_someWitnessSays_25 (by decide) (fun c_25 => ?_) (fun c_25 => ?_)
        · refine lv_iinc (v := nI w + 1) (lv' := [(3, .int (nI w + 1)), (0, .ref (G.h + b)), (1, .ref (G.h + (b + 2 + 8 * x))), (2, .int (nI v))]) C.x C.b dX2_someWitnessSays_30 hl (k := 3) rfl rfl (by decide) rfl (fun ls hl => ?_)
          have hl : lv_has ls 4 [(3, .int (nI (w + 1))), (0, .ref (G.h + b)), (1, .ref (G.h + (b + 2 + 8 * x))), (2, .int (nI v))] := by
            have e9 : nI w + 1 = nI (w + 1) := nI_1 w
            rw [← e9]; exact hl
          refine lv_goto (tgt := 2) C.x C.b dX2_someWitnessSays_33 (by decide) ?_
          exact ih (w + 1) _ _ _ (by omega) (by rw [hb, swS, if_neg (fun q => c_25 (by rw [q.2]))]) hw (lv_sub hl [1, 2, 3, 0] rfl)
        · refine lv_iconst (v := 1) C.x C.b dX2_someWitnessSays_28 (by decide) ?_
          exact z_zret C hw dX2_someWitnessSays_29 (by decide) (by rw [hb, swS, if_pos ⟨hb1, (nI_eq (by omega) (by omega)).mp c_25⟩]) (rfl)
  exact loop S.n 0 _ _ _ (by omega) rfl hw (lv_sub hl [1, 2, 3, 0] rfl)
end
section
set_option maxRecDepth 100000 in
set_option maxHeartbeats 4000000 in
theorem m_X2_send {G : zG} {N : Nat} {Λ : zLay} {l : Launch} (hO : zOK G l) (z : zM) {b : Nat} (hW : zWo G N Λ b) {x n st li qk : Nat} {T : aT} (hn : 2 ≤ n) (hn6 : n ≤ 6) (hx : x < n) (hx6 : x < 6) (h1 : z.1 (b + 2 + 8 * x) 1 = nI st) (hst : st < 9973) (h3 : z.1 (b + 2 + 8 * x) 3 = nI li) (hli : li < 2) (h0 : z.1 b 0 = nI n) (hL : rLog z (b + 2 + 8 * x + 2) T) (hT : T.1 < 40) (hq : z.1 (b + 50) 3 = nI qk) (hqk : qk < 40) : zMet G N Λ l yX2_send cX2_send 6 none 3 [.ref (G.h + b), .ref (G.h + (b + 2 + 8 * x))] z none (sndz z b x n st li qk T) := by
  refine zMet_of hO (by decide) (Nat.le_of_ble_eq_true rfl) ?_
  intro pP eE sS mM bB tT cC ls C hw hl
  have hl : lv_has ls 6 [(0, .ref (G.h + b)), (1, .ref (G.h + (b + 2 + 8 * x)))] := hl
  refine lv_aload_n C.x C.b dX2_send_0 rfl (lv_at hl 1 rfl) ?_
  refine z_get C hw (hW.m hx6).lt ((hW.m hx6).at _ _) flX2_68 rfl dX2_send_1 ?_
  refine lv_aload_n C.x C.b dX2_send_4 rfl (lv_at hl 1 rfl) ?_
  refine z_get C hw (hW.m hx6).lt ((hW.m hx6).at _ _) flX2_54 rfl dX2_send_5 ?_
  refine z_topi (y := nI st) (h1) ?_
  refine lv_aload_n C.x C.b dX2_send_8 rfl (lv_at hl 0 rfl) ?_
  refine z_get C hw hW.lt (hW.at _ _) flX2_32 rfl dX2_send_9 ?_
  refine z_topi (y := nI n) (h0) ?_
  refine z_Nv (As := [.int (nI x), .int (nI st), .int (nI n)]) (rest := []) C hw hl (m_X3_outputPeer hO _ hst hn hn6 hx) ivX2_71 rfl rfl ⟨(Nat.le_of_ble_eq_true rfl), (Nat.le_of_ble_eq_true rfl)⟩ (Nat.le_of_ble_eq_true rfl) ⟨Nat.zero_le _, Nat.zero_le _⟩ dX2_send_12 (fun H locs hw => ?_)
  refine lv_istore_n (lv' := [(2, .int (nI (gt x st n))), (0, .ref (G.h + b)), (1, .ref (G.h + (b + 2 + 8 * x)))]) C.x C.b dX2_send_15 rfl hl (by decide) rfl (fun ls hl => ?_)
  refine lv_aload_n C.x C.b dX2_send_16 rfl (lv_at hl 2 rfl) ?_
  refine z_get C hw (hW.m hx6).lt ((hW.m hx6).at _ _) flX2_54 rfl dX2_send_17 ?_
  refine z_topi (y := nI st) (h1) ?_
  refine z_Nv (As := [.int (nI st)]) (rest := []) C hw hl (m_X3_outputValue hO _ hst) ivX2_74 rfl rfl ⟨(Nat.le_of_ble_eq_true rfl), (Nat.le_of_ble_eq_true rfl)⟩ (Nat.le_of_ble_eq_true rfl) ⟨Nat.zero_le _, Nat.zero_le _⟩ dX2_send_20 (fun H locs hw => ?_)
  refine lv_istore_n (lv' := [(3, .int (nI (st % 1000))), (2, .int (nI (gt x st n))), (0, .ref (G.h + b)), (1, .ref (G.h + (b + 2 + 8 * x)))]) C.x C.b dX2_send_23 rfl hl (by decide) rfl (fun ls hl => ?_)
  refine lv_aload_n C.x C.b dX2_send_24 rfl (lv_at hl 3 rfl) ?_
  refine z_get C hw (hW.m hx6).lt ((hW.m hx6).at _ _) flX2_78 rfl dX2_send_25 ?_
  refine z_topi (y := nI li) (h3) ?_
  refine lv_if_eq (tgt := 44) C.x C.b dX2_send_28 (by decide) (fun c_28 => ?_) (fun c_28 => ?_)
  · have hl0 : li = 0 := zzero (by omega) c_28
    have hl : lv_has ls 6 [(3, .int (nI (outv st li))), (2, .int (nI (gt x st n))), (0, .ref (G.h + b)), (1, .ref (G.h + (b + 2 + 8 * x)))] := by
      have e9 : nI (st % 1000) = nI (outv st li) := by rw [outv, hl0, Nat.add_zero, Nat.mod_mod]
      rw [← e9]; exact hl
    obtain ⟨z_1, ez_1⟩ : ∃ q_9, q_9 = zi z (b + 2 + 8 * x) 3 0 := ⟨_, rfl⟩
    have hw : zS G N Λ z_1 sS H locs := by rw [ez_1, zi_same (by rw [h3, hl0]; rfl)]; exact hw
    have hf1 : ∀ i, i ≠ b + 2 + 8 * x → z_1.1 i = z.1 i := fun i hi => by rw [ez_1]; exact (zi_fr _ _ _ _).1 i (by omega)
    have hL1 : rLog z_1 (b + 2 + 8 * x + 2) T := hL.cg (hf1 _ (by omega)) (hf1 _ (by omega))
    refine lv_aload_n C.x C.b dX2_send_44 rfl (lv_at hl 3 rfl) ?_
    refine z_get C hw (hW.m hx6).lt ((hW.m hx6).at _ _) flX2_82 rfl dX2_send_45 ?_
    refine z_get C hw (hW.m hx6).log.lt ((hW.m hx6).log.at _ _) flX2_85 rfl dX2_send_48 ?_
    refine z_topi (y := nI T.1) (hL1.1) ?_
    refine lv_istore (lv' := [(4, .int (nI T.1)), (3, .int (nI (outv st li))), (2, .int (nI (gt x st n))), (0, .ref (G.h + b)), (1, .ref (G.h + (b + 2 + 8 * x)))]) C.x C.b dX2_send_51 hl (by decide) rfl (fun ls hl => ?_)
    refine z_pc (pc2 := 53) rfl ?_
    refine lv_aload_n C.x C.b dX2_send_53 rfl (lv_at hl 4 rfl) ?_
    refine lv_iconst (v := 2) C.x C.b dX2_send_54 (by decide) ?_
    refine lv_iload_n C.x C.b dX2_send_55 rfl (lv_at hl 2 rfl) ?_
    refine z_topi (y := pI (gt x st n + 1)) ((pI_s _).symm) ?_
    refine lv_iload_n C.x C.b dX2_send_56 rfl (lv_at hl 1 rfl) ?_
    refine z_V0 (As := [.int 2, .int (pI (gt x st n + 1)), .int (nI (outv st li))]) (rest := []) C hw hl (m_X0_append hO _ (hW.m hx6) hL1.1 hT (h := CH T.2 T.1) (chv_log hL1 (Nat.le_refl _)) (CH_lt _ _) (a := 2) (q := gt x st n + 1) (v := outv st li) (by omega) (by have := gt_lt (x := x) (m := st) hn; omega) (Nat.mod_lt _ (by omega))) ivX2_50 (hW.m hx6).lt ((hW.m hx6).at _ _) rfl rfl ⟨(Nat.le_of_ble_eq_true rfl), (Nat.le_of_ble_eq_true rfl)⟩ (Nat.le_of_ble_eq_true rfl) ⟨Nat.zero_le _, Nat.zero_le _⟩ dX2_send_57 (fun H locs hw => ?_)
    obtain ⟨z_2, ez_2⟩ : ∃ q_9, q_9 = lapp z_1 (b + 2 + 8 * x + 2) T.1 2 (gt x st n + 1) (outv st li) (CH T.2 T.1) := ⟨_, rfl⟩
    have hw : zS G N Λ z_2 sS H locs := by rw [ez_2]; exact hw
    refine lv_aload_n C.x C.b dX2_send_60 rfl (lv_at hl 3 rfl) ?_
    refine z_get C hw hW.lt (hW.at _ _) flX2_25 rfl dX2_send_61 ?_
    have hf2 := lapp_fr z_1 (b + 2 + 8 * x + 2) T.1 2 (gt x st n + 1) (outv st li) (CH T.2 T.1)
    have hq2 : z_2.1 (b + 50) 3 = nI qk := by rw [ez_2, hf2.1 _ (by omega), hf1 _ (by omega)]; exact hq
    have hL2 : rLog z_2 (b + 2 + 8 * x + 2) (tpush T (row3 2 (gt x st n + 1) (outv st li))) := by rw [ez_2]; exact lapp_log hL1 _ _ _
    refine z_Vv (As := []) (rest := []) C hw hl (m_X1_addRow hO _ hW.queue hq2 (by omega) hqk) ivX2_88 hW.queue.lt (hW.queue.at _ _) rfl rfl ⟨(Nat.le_of_ble_eq_true rfl), (Nat.le_of_ble_eq_true rfl)⟩ (Nat.le_of_ble_eq_true rfl) ⟨Nat.zero_le _, Nat.zero_le _⟩ dX2_send_64 (fun H locs hw => ?_)
    obtain ⟨z_3, ez_3⟩ : ∃ q_9, q_9 = zi z_2 (b + 50) 3 (nI (qk + 1)) := ⟨_, rfl⟩
    have hw : zS G N Λ z_3 sS H locs := by rw [ez_3]; exact hw
    refine lv_istore (lv' := [(5, .int (nI qk)), (4, .int (nI T.1)), (3, .int (nI (outv st li))), (2, .int (nI (gt x st n))), (0, .ref (G.h + b)), (1, .ref (G.h + (b + 2 + 8 * x)))]) C.x C.b dX2_send_67 hl (by decide) rfl (fun ls hl => ?_)
    refine lv_aload_n C.x C.b dX2_send_69 rfl (lv_at hl 4 rfl) ?_
    refine z_get C hw hW.lt (hW.at _ _) flX2_25 rfl dX2_send_70 ?_
    refine lv_iload C.x C.b dX2_send_73 (lv_at hl 0 rfl) ?_
    refine lv_iconst (v := 0) C.x C.b dX2_send_75 (by decide) ?_
    refine lv_aload_n C.x C.b dX2_send_76 rfl (lv_at hl 5 rfl) ?_
    refine z_get C hw (hW.m hx6).lt ((hW.m hx6).at _ _) flX2_68 rfl dX2_send_77 ?_
    have hk_3 : z_3.1 (b + 50) 3 = nI (qk + 1) := by rw [ez_3, zi_at, if_pos ⟨rfl, rfl⟩]
    refine z_V0 (As := [.int (nI qk), .int 0, .int (nI x)]) (rest := []) C hw hl (m_X1_set hO _ hW.queue hk_3 (by omega) (r := qk) (c := 0) (by omega) (by omega)) ivX2_92 hW.queue.lt (hW.queue.at _ _) rfl rfl ⟨(Nat.le_of_ble_eq_true rfl), (Nat.le_of_ble_eq_true rfl)⟩ (Nat.le_of_ble_eq_true rfl) ⟨Nat.zero_le _, Nat.zero_le _⟩ dX2_send_80 (fun H locs hw => ?_)
    obtain ⟨z_4, ez_4⟩ : ∃ q_9, q_9 = zi z_3 (b + 50 + 1) (qk * 5 + 0) (nI x) := ⟨_, rfl⟩
    have hw : zS G N Λ z_4 sS H locs := by rw [ez_4]; exact hw
    refine lv_aload_n C.x C.b dX2_send_83 rfl (lv_at hl 4 rfl) ?_
    refine z_get C hw hW.lt (hW.at _ _) flX2_25 rfl dX2_send_84 ?_
    refine lv_iload C.x C.b dX2_send_87 (lv_at hl 0 rfl) ?_
    refine lv_iconst (v := 1) C.x C.b dX2_send_89 (by decide) ?_
    refine z_pc (pc2 := 90) rfl ?_
    refine lv_iload C.x C.b dX2_send_90 (lv_at hl 1 rfl) ?_
    have hk_4 : z_4.1 (b + 50) 3 = nI (qk + 1) := by rw [ez_4, zi_at, if_neg (by omega), hk_3]
    refine z_V0 (As := [.int (nI qk), .int 1, .int (nI T.1)]) (rest := []) C hw hl (m_X1_set hO _ hW.queue hk_4 (by omega) (r := qk) (c := 1) (by omega) (by omega)) ivX2_92 hW.queue.lt (hW.queue.at _ _) rfl rfl ⟨(Nat.le_of_ble_eq_true rfl), (Nat.le_of_ble_eq_true rfl)⟩ (Nat.le_of_ble_eq_true rfl) ⟨Nat.zero_le _, Nat.zero_le _⟩ dX2_send_92 (fun H locs hw => ?_)
    obtain ⟨z_5, ez_5⟩ : ∃ q_9, q_9 = zi z_4 (b + 50 + 1) (qk * 5 + 1) (nI T.1) := ⟨_, rfl⟩
    have hw : zS G N Λ z_5 sS H locs := by rw [ez_5]; exact hw
    refine lv_aload_n C.x C.b dX2_send_95 rfl (lv_at hl 4 rfl) ?_
    refine z_get C hw hW.lt (hW.at _ _) flX2_25 rfl dX2_send_96 ?_
    refine lv_iload C.x C.b dX2_send_99 (lv_at hl 0 rfl) ?_
    refine lv_iconst (v := 2) C.x C.b dX2_send_101 (by decide) ?_
    refine lv_aload_n C.x C.b dX2_send_102 rfl (lv_at hl 5 rfl) ?_
    refine lv_iload C.x C.b dX2_send_103 (lv_at hl 1 rfl) ?_
    refine lv_iconst (v := 1) C.x C.b dX2_send_105 (by decide) ?_
    refine lv_iadd C.x C.b dX2_send_106 ?_
    refine z_topi (y := nI (T.1 + 1)) (nI_1 _) ?_
    have hf5 : ∀ i, i ≠ b + 50 → i ≠ b + 50 + 1 → z_5.1 i = z_2.1 i := fun i h8 h9 => by rw [ez_5, (zi_fr _ _ _ _).1 i (by omega), ez_4, (zi_fr _ _ _ _).1 i (by omega), ez_3, (zi_fr _ _ _ _).1 i (by omega)]
    have hL5 : rLog z_5 (b + 2 + 8 * x + 2) (tpush T (row3 2 (gt x st n + 1) (outv st li))) := hL2.cg (hf5 _ (by omega) (by omega)) (hf5 _ (by omega) (by omega))
    refine z_Vv (As := [.int (nI (T.1 + 1))]) (rest := [.int 2, .int (nI qk), .ref (G.h + (b + 50))]) C hw hl (m_X0_chainAt hO _ (hW.m hx6) hL5.1 (show T.1 + 1 ≤ 40 by omega) (i := T.1 + 1) (show T.1 + 1 ≤ T.1 + 1 by omega)) ivX2_95 (hW.m hx6).lt ((hW.m hx6).at _ _) rfl rfl ⟨(Nat.le_of_ble_eq_true rfl), (Nat.le_of_ble_eq_true rfl)⟩ (Nat.le_of_ble_eq_true rfl) ⟨Nat.zero_le _, Nat.zero_le _⟩ dX2_send_107 (fun H locs hw => ?_)
    refine z_topi (y := nI (CH (tpush T (row3 2 (gt x st n + 1) (outv st li))).2 (T.1 + 1))) (chv_log hL5 (Nat.le_refl _)) ?_
    have hk_5 : z_5.1 (b + 50) 3 = nI (qk + 1) := by rw [ez_5, zi_at, if_neg (by omega), hk_4]
    refine z_V0 (As := [.int (nI qk), .int 2, .int (nI (CH (tpush T (row3 2 (gt x st n + 1) (outv st li))).2 (T.1 + 1)))]) (rest := []) C hw hl (m_X1_set hO _ hW.queue hk_5 (by omega) (r := qk) (c := 2) (by omega) (by omega)) ivX2_92 hW.queue.lt (hW.queue.at _ _) rfl rfl ⟨(Nat.le_of_ble_eq_true rfl), (Nat.le_of_ble_eq_true rfl)⟩ (Nat.le_of_ble_eq_true rfl) ⟨Nat.zero_le _, Nat.zero_le _⟩ dX2_send_110 (fun H locs hw => ?_)
    obtain ⟨z_6, ez_6⟩ : ∃ q_9, q_9 = zi z_5 (b + 50 + 1) (qk * 5 + 2) (nI (CH (tpush T (row3 2 (gt x st n + 1) (outv st li))).2 (T.1 + 1))) := ⟨_, rfl⟩
    have hw : zS G N Λ z_6 sS H locs := by rw [ez_6]; exact hw
    refine lv_aload_n C.x C.b dX2_send_113 rfl (lv_at hl 4 rfl) ?_
    refine z_get C hw hW.lt (hW.at _ _) flX2_25 rfl dX2_send_114 ?_
    refine lv_iload C.x C.b dX2_send_117 (lv_at hl 0 rfl) ?_
    refine lv_iconst (v := 3) C.x C.b dX2_send_119 (by decide) ?_
    refine lv_iload_n C.x C.b dX2_send_120 rfl (lv_at hl 3 rfl) ?_
    have hk_6 : z_6.1 (b + 50) 3 = nI (qk + 1) := by rw [ez_6, zi_at, if_neg (by omega), hk_5]
    refine z_V0 (As := [.int (nI qk), .int 3, .int (nI (gt x st n))]) (rest := []) C hw hl (m_X1_set hO _ hW.queue hk_6 (by omega) (r := qk) (c := 3) (by omega) (by omega)) ivX2_92 hW.queue.lt (hW.queue.at _ _) rfl rfl ⟨(Nat.le_of_ble_eq_true rfl), (Nat.le_of_ble_eq_true rfl)⟩ (Nat.le_of_ble_eq_true rfl) ⟨Nat.zero_le _, Nat.zero_le _⟩ dX2_send_121 (fun H locs hw => ?_)
    obtain ⟨z_7, ez_7⟩ : ∃ q_9, q_9 = zi z_6 (b + 50 + 1) (qk * 5 + 3) (nI (gt x st n)) := ⟨_, rfl⟩
    have hw : zS G N Λ z_7 sS H locs := by rw [ez_7]; exact hw
    refine lv_aload_n C.x C.b dX2_send_124 rfl (lv_at hl 4 rfl) ?_
    refine z_get C hw hW.lt (hW.at _ _) flX2_25 rfl dX2_send_125 ?_
    refine z_pc (pc2 := 128) rfl ?_
    refine lv_iload C.x C.b dX2_send_128 (lv_at hl 0 rfl) ?_
    refine lv_iconst (v := 4) C.x C.b dX2_send_130 (by decide) ?_
    refine lv_iload_n C.x C.b dX2_send_131 rfl (lv_at hl 2 rfl) ?_
    have hk_7 : z_7.1 (b + 50) 3 = nI (qk + 1) := by rw [ez_7, zi_at, if_neg (by omega), hk_6]
    refine z_V0 (As := [.int (nI qk), .int 4, .int (nI (outv st li))]) (rest := []) C hw hl (m_X1_set hO _ hW.queue hk_7 (by omega) (r := qk) (c := 4) (by omega) (by omega)) ivX2_92 hW.queue.lt (hW.queue.at _ _) rfl rfl ⟨(Nat.le_of_ble_eq_true rfl), (Nat.le_of_ble_eq_true rfl)⟩ (Nat.le_of_ble_eq_true rfl) ⟨Nat.zero_le _, Nat.zero_le _⟩ dX2_send_132 (fun H locs hw => ?_)
    obtain ⟨z_8, ez_8⟩ : ∃ q_9, q_9 = zi z_7 (b + 50 + 1) (qk * 5 + 4) (nI (outv st li)) := ⟨_, rfl⟩
    have hw : zS G N Λ z_8 sS H locs := by rw [ez_8]; exact hw
    exact z_vret C hw dX2_send_135 (rfl) (by rw [ez_8, ez_7, ez_6, ez_5, ez_4, ez_3, ez_2, ez_1]; rfl)
  · refine lv_iload_n C.x C.b dX2_send_31 rfl (lv_at hl 0 rfl) ?_
    refine lv_iconst (v := 1) C.x C.b dX2_send_32 (by decide) ?_
    refine lv_iadd C.x C.b dX2_send_33 ?_
    refine z_topi (y := nI (st % 1000 + 1)) (nI_1 _) ?_
    refine lv_sipush (v := 1000) C.x C.b dX2_send_34 (by decide) ?_
    refine z_pc (pc2 := 37) rfl ?_
    refine lv_irem C.x C.b dX2_send_37 (by decide) ?_
    refine z_topi (y := nI (outv st li)) (by
        have hl1 : li = 1 := by have := zpos c_28; omega
        rw [outv, hl1]; exact zrem 1000 (by omega) (by omega) (by omega)) ?_
    refine lv_istore_n (lv' := [(3, .int (nI (outv st li))), (2, .int (nI (gt x st n))), (0, .ref (G.h + b)), (1, .ref (G.h + (b + 2 + 8 * x)))]) C.x C.b dX2_send_38 rfl hl (by decide) rfl (fun ls hl => ?_)
    refine lv_aload_n C.x C.b dX2_send_39 rfl (lv_at hl 3 rfl) ?_
    refine lv_iconst (v := 0) C.x C.b dX2_send_40 (by decide) ?_
    refine z_put C hw (hW.m hx6).lt ((hW.m hx6).at _ _) ptX2_78 ((hW.m hx6).at _ _) (rfl) (rfl) (Nat.le_of_ble_eq_true rfl) dX2_send_41 (fun H locs hw => ?_)
    obtain ⟨z_1, ez_1⟩ : ∃ q_9, q_9 = zi z (b + 2 + 8 * x) 3 0 := ⟨_, rfl⟩
    have hw : zS G N Λ z_1 sS H locs := by rw [ez_1]; exact hw
    have hf1 : ∀ i, i ≠ b + 2 + 8 * x → z_1.1 i = z.1 i := fun i hi => by rw [ez_1]; exact (zi_fr _ _ _ _).1 i (by omega)
    have hL1 : rLog z_1 (b + 2 + 8 * x + 2) T := hL.cg (hf1 _ (by omega)) (hf1 _ (by omega))
    refine lv_aload_n C.x C.b dX2_send_44 rfl (lv_at hl 3 rfl) ?_
    refine z_get C hw (hW.m hx6).lt ((hW.m hx6).at _ _) flX2_82 rfl dX2_send_45 ?_
    refine z_get C hw (hW.m hx6).log.lt ((hW.m hx6).log.at _ _) flX2_85 rfl dX2_send_48 ?_
    refine z_topi (y := nI T.1) (hL1.1) ?_
    refine lv_istore (lv' := [(4, .int (nI T.1)), (3, .int (nI (outv st li))), (2, .int (nI (gt x st n))), (0, .ref (G.h + b)), (1, .ref (G.h + (b + 2 + 8 * x)))]) C.x C.b dX2_send_51 hl (by decide) rfl (fun ls hl => ?_)
    refine lv_aload_n C.x C.b dX2_send_53 rfl (lv_at hl 4 rfl) ?_
    refine lv_iconst (v := 2) C.x C.b dX2_send_54 (by decide) ?_
    refine lv_iload_n C.x C.b dX2_send_55 rfl (lv_at hl 2 rfl) ?_
    refine z_topi (y := pI (gt x st n + 1)) ((pI_s _).symm) ?_
    refine lv_iload_n C.x C.b dX2_send_56 rfl (lv_at hl 1 rfl) ?_
    refine z_V0 (As := [.int 2, .int (pI (gt x st n + 1)), .int (nI (outv st li))]) (rest := []) C hw hl (m_X0_append hO _ (hW.m hx6) hL1.1 hT (h := CH T.2 T.1) (chv_log hL1 (Nat.le_refl _)) (CH_lt _ _) (a := 2) (q := gt x st n + 1) (v := outv st li) (by omega) (by have := gt_lt (x := x) (m := st) hn; omega) (Nat.mod_lt _ (by omega))) ivX2_50 (hW.m hx6).lt ((hW.m hx6).at _ _) rfl rfl ⟨(Nat.le_of_ble_eq_true rfl), (Nat.le_of_ble_eq_true rfl)⟩ (Nat.le_of_ble_eq_true rfl) ⟨Nat.zero_le _, Nat.zero_le _⟩ dX2_send_57 (fun H locs hw => ?_)
    obtain ⟨z_2, ez_2⟩ : ∃ q_9, q_9 = lapp z_1 (b + 2 + 8 * x + 2) T.1 2 (gt x st n + 1) (outv st li) (CH T.2 T.1) := ⟨_, rfl⟩
    have hw : zS G N Λ z_2 sS H locs := by rw [ez_2]; exact hw
    refine lv_aload_n C.x C.b dX2_send_60 rfl (lv_at hl 3 rfl) ?_
    refine z_get C hw hW.lt (hW.at _ _) flX2_25 rfl dX2_send_61 ?_
    have hf2 := lapp_fr z_1 (b + 2 + 8 * x + 2) T.1 2 (gt x st n + 1) (outv st li) (CH T.2 T.1)
    have hq2 : z_2.1 (b + 50) 3 = nI qk := by rw [ez_2, hf2.1 _ (by omega), hf1 _ (by omega)]; exact hq
    have hL2 : rLog z_2 (b + 2 + 8 * x + 2) (tpush T (row3 2 (gt x st n + 1) (outv st li))) := by rw [ez_2]; exact lapp_log hL1 _ _ _
    refine z_Vv (As := []) (rest := []) C hw hl (m_X1_addRow hO _ hW.queue hq2 (by omega) hqk) ivX2_88 hW.queue.lt (hW.queue.at _ _) rfl rfl ⟨(Nat.le_of_ble_eq_true rfl), (Nat.le_of_ble_eq_true rfl)⟩ (Nat.le_of_ble_eq_true rfl) ⟨Nat.zero_le _, Nat.zero_le _⟩ dX2_send_64 (fun H locs hw => ?_)
    obtain ⟨z_3, ez_3⟩ : ∃ q_9, q_9 = zi z_2 (b + 50) 3 (nI (qk + 1)) := ⟨_, rfl⟩
    have hw : zS G N Λ z_3 sS H locs := by rw [ez_3]; exact hw
    refine lv_istore (lv' := [(5, .int (nI qk)), (4, .int (nI T.1)), (3, .int (nI (outv st li))), (2, .int (nI (gt x st n))), (0, .ref (G.h + b)), (1, .ref (G.h + (b + 2 + 8 * x)))]) C.x C.b dX2_send_67 hl (by decide) rfl (fun ls hl => ?_)
    refine lv_aload_n C.x C.b dX2_send_69 rfl (lv_at hl 4 rfl) ?_
    refine z_get C hw hW.lt (hW.at _ _) flX2_25 rfl dX2_send_70 ?_
    refine z_pc (pc2 := 73) rfl ?_
    refine lv_iload C.x C.b dX2_send_73 (lv_at hl 0 rfl) ?_
    refine lv_iconst (v := 0) C.x C.b dX2_send_75 (by decide) ?_
    refine lv_aload_n C.x C.b dX2_send_76 rfl (lv_at hl 5 rfl) ?_
    refine z_get C hw (hW.m hx6).lt ((hW.m hx6).at _ _) flX2_68 rfl dX2_send_77 ?_
    have hk_3 : z_3.1 (b + 50) 3 = nI (qk + 1) := by rw [ez_3, zi_at, if_pos ⟨rfl, rfl⟩]
    refine z_V0 (As := [.int (nI qk), .int 0, .int (nI x)]) (rest := []) C hw hl (m_X1_set hO _ hW.queue hk_3 (by omega) (r := qk) (c := 0) (by omega) (by omega)) ivX2_92 hW.queue.lt (hW.queue.at _ _) rfl rfl ⟨(Nat.le_of_ble_eq_true rfl), (Nat.le_of_ble_eq_true rfl)⟩ (Nat.le_of_ble_eq_true rfl) ⟨Nat.zero_le _, Nat.zero_le _⟩ dX2_send_80 (fun H locs hw => ?_)
    obtain ⟨z_4, ez_4⟩ : ∃ q_9, q_9 = zi z_3 (b + 50 + 1) (qk * 5 + 0) (nI x) := ⟨_, rfl⟩
    have hw : zS G N Λ z_4 sS H locs := by rw [ez_4]; exact hw
    refine lv_aload_n C.x C.b dX2_send_83 rfl (lv_at hl 4 rfl) ?_
    refine z_get C hw hW.lt (hW.at _ _) flX2_25 rfl dX2_send_84 ?_
    refine lv_iload C.x C.b dX2_send_87 (lv_at hl 0 rfl) ?_
    refine lv_iconst (v := 1) C.x C.b dX2_send_89 (by decide) ?_
    refine lv_iload C.x C.b dX2_send_90 (lv_at hl 1 rfl) ?_
    have hk_4 : z_4.1 (b + 50) 3 = nI (qk + 1) := by rw [ez_4, zi_at, if_neg (by omega), hk_3]
    refine z_V0 (As := [.int (nI qk), .int 1, .int (nI T.1)]) (rest := []) C hw hl (m_X1_set hO _ hW.queue hk_4 (by omega) (r := qk) (c := 1) (by omega) (by omega)) ivX2_92 hW.queue.lt (hW.queue.at _ _) rfl rfl ⟨(Nat.le_of_ble_eq_true rfl), (Nat.le_of_ble_eq_true rfl)⟩ (Nat.le_of_ble_eq_true rfl) ⟨Nat.zero_le _, Nat.zero_le _⟩ dX2_send_92 (fun H locs hw => ?_)
    obtain ⟨z_5, ez_5⟩ : ∃ q_9, q_9 = zi z_4 (b + 50 + 1) (qk * 5 + 1) (nI T.1) := ⟨_, rfl⟩
    have hw : zS G N Λ z_5 sS H locs := by rw [ez_5]; exact hw
    refine lv_aload_n C.x C.b dX2_send_95 rfl (lv_at hl 4 rfl) ?_
    refine z_get C hw hW.lt (hW.at _ _) flX2_25 rfl dX2_send_96 ?_
    refine lv_iload C.x C.b dX2_send_99 (lv_at hl 0 rfl) ?_
    refine lv_iconst (v := 2) C.x C.b dX2_send_101 (by decide) ?_
    refine lv_aload_n C.x C.b dX2_send_102 rfl (lv_at hl 5 rfl) ?_
    refine lv_iload C.x C.b dX2_send_103 (lv_at hl 1 rfl) ?_
    refine lv_iconst (v := 1) C.x C.b dX2_send_105 (by decide) ?_
    refine lv_iadd C.x C.b dX2_send_106 ?_
    refine z_topi (y := nI (T.1 + 1)) (nI_1 _) ?_
    have hf5 : ∀ i, i ≠ b + 50 → i ≠ b + 50 + 1 → z_5.1 i = z_2.1 i := fun i h8 h9 => by rw [ez_5, (zi_fr _ _ _ _).1 i (by omega), ez_4, (zi_fr _ _ _ _).1 i (by omega), ez_3, (zi_fr _ _ _ _).1 i (by omega)]
    have hL5 : rLog z_5 (b + 2 + 8 * x + 2) (tpush T (row3 2 (gt x st n + 1) (outv st li))) := hL2.cg (hf5 _ (by omega) (by omega)) (hf5 _ (by omega) (by omega))
    refine z_Vv (As := [.int (nI (T.1 + 1))]) (rest := [.int 2, .int (nI qk), .ref (G.h + (b + 50))]) C hw hl (m_X0_chainAt hO _ (hW.m hx6) hL5.1 (show T.1 + 1 ≤ 40 by omega) (i := T.1 + 1) (show T.1 + 1 ≤ T.1 + 1 by omega)) ivX2_95 (hW.m hx6).lt ((hW.m hx6).at _ _) rfl rfl ⟨(Nat.le_of_ble_eq_true rfl), (Nat.le_of_ble_eq_true rfl)⟩ (Nat.le_of_ble_eq_true rfl) ⟨Nat.zero_le _, Nat.zero_le _⟩ dX2_send_107 (fun H locs hw => ?_)
    refine z_topi (y := nI (CH (tpush T (row3 2 (gt x st n + 1) (outv st li))).2 (T.1 + 1))) (chv_log hL5 (Nat.le_refl _)) ?_
    refine z_pc (pc2 := 110) rfl ?_
    have hk_5 : z_5.1 (b + 50) 3 = nI (qk + 1) := by rw [ez_5, zi_at, if_neg (by omega), hk_4]
    refine z_V0 (As := [.int (nI qk), .int 2, .int (nI (CH (tpush T (row3 2 (gt x st n + 1) (outv st li))).2 (T.1 + 1)))]) (rest := []) C hw hl (m_X1_set hO _ hW.queue hk_5 (by omega) (r := qk) (c := 2) (by omega) (by omega)) ivX2_92 hW.queue.lt (hW.queue.at _ _) rfl rfl ⟨(Nat.le_of_ble_eq_true rfl), (Nat.le_of_ble_eq_true rfl)⟩ (Nat.le_of_ble_eq_true rfl) ⟨Nat.zero_le _, Nat.zero_le _⟩ dX2_send_110 (fun H locs hw => ?_)
    obtain ⟨z_6, ez_6⟩ : ∃ q_9, q_9 = zi z_5 (b + 50 + 1) (qk * 5 + 2) (nI (CH (tpush T (row3 2 (gt x st n + 1) (outv st li))).2 (T.1 + 1))) := ⟨_, rfl⟩
    have hw : zS G N Λ z_6 sS H locs := by rw [ez_6]; exact hw
    refine lv_aload_n C.x C.b dX2_send_113 rfl (lv_at hl 4 rfl) ?_
    refine z_get C hw hW.lt (hW.at _ _) flX2_25 rfl dX2_send_114 ?_
    refine lv_iload C.x C.b dX2_send_117 (lv_at hl 0 rfl) ?_
    refine lv_iconst (v := 3) C.x C.b dX2_send_119 (by decide) ?_
    refine lv_iload_n C.x C.b dX2_send_120 rfl (lv_at hl 3 rfl) ?_
    have hk_6 : z_6.1 (b + 50) 3 = nI (qk + 1) := by rw [ez_6, zi_at, if_neg (by omega), hk_5]
    refine z_V0 (As := [.int (nI qk), .int 3, .int (nI (gt x st n))]) (rest := []) C hw hl (m_X1_set hO _ hW.queue hk_6 (by omega) (r := qk) (c := 3) (by omega) (by omega)) ivX2_92 hW.queue.lt (hW.queue.at _ _) rfl rfl ⟨(Nat.le_of_ble_eq_true rfl), (Nat.le_of_ble_eq_true rfl)⟩ (Nat.le_of_ble_eq_true rfl) ⟨Nat.zero_le _, Nat.zero_le _⟩ dX2_send_121 (fun H locs hw => ?_)
    obtain ⟨z_7, ez_7⟩ : ∃ q_9, q_9 = zi z_6 (b + 50 + 1) (qk * 5 + 3) (nI (gt x st n)) := ⟨_, rfl⟩
    have hw : zS G N Λ z_7 sS H locs := by rw [ez_7]; exact hw
    refine lv_aload_n C.x C.b dX2_send_124 rfl (lv_at hl 4 rfl) ?_
    refine z_get C hw hW.lt (hW.at _ _) flX2_25 rfl dX2_send_125 ?_
    refine lv_iload C.x C.b dX2_send_128 (lv_at hl 0 rfl) ?_
    refine lv_iconst (v := 4) C.x C.b dX2_send_130 (by decide) ?_
    refine lv_iload_n C.x C.b dX2_send_131 rfl (lv_at hl 2 rfl) ?_
    have hk_7 : z_7.1 (b + 50) 3 = nI (qk + 1) := by rw [ez_7, zi_at, if_neg (by omega), hk_6]
    refine z_V0 (As := [.int (nI qk), .int 4, .int (nI (outv st li))]) (rest := []) C hw hl (m_X1_set hO _ hW.queue hk_7 (by omega) (r := qk) (c := 4) (by omega) (by omega)) ivX2_92 hW.queue.lt (hW.queue.at _ _) rfl rfl ⟨(Nat.le_of_ble_eq_true rfl), (Nat.le_of_ble_eq_true rfl)⟩ (Nat.le_of_ble_eq_true rfl) ⟨Nat.zero_le _, Nat.zero_le _⟩ dX2_send_132 (fun H locs hw => ?_)
    obtain ⟨z_8, ez_8⟩ : ∃ q_9, q_9 = zi z_7 (b + 50 + 1) (qk * 5 + 4) (nI (outv st li)) := ⟨_, rfl⟩
    have hw : zS G N Λ z_8 sS H locs := by rw [ez_8]; exact hw
    exact z_vret C hw dX2_send_135 (rfl) (by rw [ez_8, ez_7, ez_6, ez_5, ez_4, ez_3, ez_2, ez_1]; rfl)

set_option maxRecDepth 100000 in
set_option maxHeartbeats 4000000 in
theorem m_X2_take {G : zG} {N : Nat} {Λ : zLay} {l : Launch} (hO : zOK G l) (z : zM) {b : Nat} (hW : zWo G N Λ b) {x n st li qk : Nat} {T : aT} (hn : 2 ≤ n) (hn6 : n ≤ 6) (hx : x < n) (hx6 : x < 6) (h1 : z.1 (b + 2 + 8 * x) 1 = nI st) (hst : st < 9973) (h3 : z.1 (b + 2 + 8 * x) 3 = nI li) (hli : li < 2) (h0 : z.1 b 0 = nI n) (hL : rLog z (b + 2 + 8 * x + 2) T) (hT : T.1 ≤ 38) (hq : z.1 (b + 50) 3 = nI qk) (hqk : qk < 40) {a q v : Nat} (ha : a ≤ 2) (hq6 : q ≤ 6) (hv : v < 1000) : zMet G N Λ l yX2_take cX2_take 5 none 4 [.ref (G.h + b), .ref (G.h + (b + 2 + 8 * x)), .int (nI a), .int (pI q), .int (nI v)] z none (tkz z b x n st li qk T a q v) := by
  refine zMet_of hO (by decide) (Nat.le_of_ble_eq_true rfl) ?_
  intro pP eE sS mM bB tT cC ls C hw hl
  have hl : lv_has ls 5 [(0, .ref (G.h + b)), (1, .ref (G.h + (b + 2 + 8 * x))), (2, .int (nI a)), (3, .int (pI q)), (4, .int (nI v))] := hl
  refine lv_aload_n C.x C.b dX2_take_0 rfl (lv_at hl 1 rfl) ?_
  refine lv_iload_n C.x C.b dX2_take_1 rfl (lv_at hl 2 rfl) ?_
  refine lv_iload_n C.x C.b dX2_take_2 rfl (lv_at hl 3 rfl) ?_
  refine lv_iload C.x C.b dX2_take_3 (lv_at hl 4 rfl) ?_
  refine z_V0 (As := [.int (nI a), .int (pI q), .int (nI v)]) (rest := []) C hw hl (m_X0_append hO _ (hW.m hx6) hL.1 (by omega) (h := CH T.2 T.1) (chv_log hL (Nat.le_refl _)) (CH_lt _ _) ha hq6 hv) ivX2_50 (hW.m hx6).lt ((hW.m hx6).at _ _) rfl rfl ⟨(Nat.le_of_ble_eq_true rfl), (Nat.le_of_ble_eq_true rfl)⟩ (Nat.le_of_ble_eq_true rfl) ⟨Nat.zero_le _, Nat.zero_le _⟩ dX2_take_5 (fun H locs hw => ?_)
  obtain ⟨z_1, ez_1⟩ : ∃ q_9, q_9 = lapp z (b + 2 + 8 * x + 2) T.1 a q v (CH T.2 T.1) := ⟨_, rfl⟩
  have hw : zS G N Λ z_1 sS H locs := by rw [ez_1]; exact hw
  have hf1 : ∀ i, i ≠ b + 2 + 8 * x + 2 → i ≠ b + 2 + 8 * x + 2 + 1 → z_1.1 i = z.1 i := fun i h8 h9 => by rw [ez_1]; exact (lapp_fr _ _ _ _ _ _ _).1 i (by omega)
  refine lv_aload_n C.x C.b dX2_take_8 rfl (lv_at hl 1 rfl) ?_
  refine lv_aload_n C.x C.b dX2_take_9 rfl (lv_at hl 1 rfl) ?_
  refine z_get C hw (hW.m hx6).lt ((hW.m hx6).at _ _) flX2_54 rfl dX2_take_10 ?_
  refine z_topi (y := nI st) (by rw [hf1 _ (by omega) (by omega)]; exact h1) ?_
  refine lv_iload_n C.x C.b dX2_take_13 rfl (lv_at hl 3 rfl) ?_
  refine lv_iload C.x C.b dX2_take_14 (lv_at hl 4 rfl) ?_
  refine z_Nv (As := [.int (nI st), .int (pI q), .int (nI v)]) (rest := [.ref (G.h + (b + 2 + 8 * x))]) C hw hl (m_X3_nextState hO _ hst hv hq6) ivX2_57 rfl rfl ⟨(Nat.le_of_ble_eq_true rfl), (Nat.le_of_ble_eq_true rfl)⟩ (Nat.le_of_ble_eq_true rfl) ⟨Nat.zero_le _, Nat.zero_le _⟩ dX2_take_16 (fun H locs hw => ?_)
  refine z_put C hw (hW.m hx6).lt ((hW.m hx6).at _ _) ptX2_54 ((hW.m hx6).at _ _) (rfl) (rfl) (Nat.le_of_ble_eq_true rfl) dX2_take_19 (fun H locs hw => ?_)
  obtain ⟨z_2, ez_2⟩ : ∃ q_9, q_9 = zi z_1 (b + 2 + 8 * x) 1 (nI (nx st v q)) := ⟨_, rfl⟩
  have hw : zS G N Λ z_2 sS H locs := by rw [ez_2]; exact hw
  refine lv_aload_n C.x C.b dX2_take_22 rfl (lv_at hl 1 rfl) ?_
  refine z_get C hw (hW.m hx6).lt ((hW.m hx6).at _ _) flX2_54 rfl dX2_take_23 ?_
  refine z_topi (y := nI (nx st v q)) (by rw [ez_2, zi_at, if_pos ⟨rfl, rfl⟩]) ?_
  refine z_Nv (As := [.int (nI (nx st v q))]) (rest := []) C hw hl (m_X3_hasOutput hO _ (nx_lt _ _ _)) ivX2_61 rfl rfl ⟨(Nat.le_of_ble_eq_true rfl), (Nat.le_of_ble_eq_true rfl)⟩ (Nat.le_of_ble_eq_true rfl) ⟨Nat.zero_le _, Nat.zero_le _⟩ dX2_take_26 (fun H locs hw => ?_)
  refine lv_if_eq (tgt := 37) C.x C.b dX2_take_29 (by decide) (fun c_29 => ?_) (fun c_29 => ?_)
  · exact z_vret C hw dX2_take_37 (rfl) (by rw [tkz, if_neg (hasO_0 c_29), ez_2, ez_1]; rfl)
  · refine lv_aload_n C.x C.b dX2_take_32 rfl (lv_at hl 0 rfl) ?_
    refine lv_aload_n C.x C.b dX2_take_33 rfl (lv_at hl 1 rfl) ?_
    have hf2 : ∀ i, i ≠ b + 2 + 8 * x → z_2.1 i = z_1.1 i := fun i h8 => by rw [ez_2]; exact (zi_fr _ _ _ _).1 i (by omega)
    have hL2 : rLog z_2 (b + 2 + 8 * x + 2) (tpush T (row3 a q v)) := by
      have h9 := lapp_log hL a q v
      rw [← ez_1] at h9
      exact h9.cg (hf2 _ (by omega)) (hf2 _ (by omega))
    refine z_V0 (As := [.ref (G.h + (b + 2 + 8 * x))]) (rest := []) C hw hl (m_X2_send hO _ hW hn hn6 hx hx6 (by rw [ez_2, zi_at, if_pos ⟨rfl, rfl⟩]) (nx_lt _ _ _) (li := li) (by rw [ez_2, zi_at, if_neg (by omega), hf1 _ (by omega) (by omega)]; exact h3) hli (by rw [hf2 _ (by omega), hf1 _ (by omega) (by omega)]; exact h0) hL2 (show T.1 + 1 < 40 by omega) (by rw [hf2 _ (by omega), hf1 _ (by omega) (by omega)]; exact hq) hqk) ivX2_65 hW.lt (hW.at _ _) rfl rfl ⟨(Nat.le_of_ble_eq_true rfl), (Nat.le_of_ble_eq_true rfl)⟩ (Nat.le_of_ble_eq_true rfl) ⟨Nat.zero_le _, Nat.zero_le _⟩ dX2_take_34 (fun H locs hw => ?_)
    obtain ⟨z_3, ez_3⟩ : ∃ q_9, q_9 = sndz z_2 b x n (nx st v q) li qk (tpush T (row3 a q v)) := ⟨_, rfl⟩
    have hw : zS G N Λ z_3 sS H locs := by rw [ez_3]; exact hw
    refine z_pc (pc2 := 37) rfl ?_
    exact z_vret C hw dX2_take_37 (rfl) (by rw [tkz, if_pos (hasO_n c_29), ez_3, ez_2, ez_1]; rfl)
end
section
/-! ===== worlds: what stays in range; the cells behind each change ===== -/
theorem cnt_congr {f g : Nat → Bool} {k : Nat} (h : ∀ i, i < k → f i = g i) : cnt f k = cnt g k := by
  induction k with
  | zero => rfl
  | succ k ih => rw [cnt, cnt, ih (fun i hi => h i (by omega)), h k (by omega)]
theorem csum_congr {f g : Nat → Nat} {k : Nat} (h : ∀ i, i < k → f i = g i) : csum f k = csum g k := by
  induction k with
  | zero => rfl
  | succ k ih => rw [csum, csum, ih (fun i hi => h i (by omega)), h k (by omega)]
theorem exps_congr {S S' : aS} (hn : S'.n = S.n) (h : ∀ x, x < S.n → (S'.m x).ver = (S.m x).ver) : exps S' = exps S := by
  unfold exps
  rw [hn]
  exact csum_congr (fun x hx => cnt_congr (fun w _ => by rw [h x hx]))
theorem aOK.setM {S : aS} (h : aOK S) {x : Nat} (hx : x < S.n) {M : aM} (hM : okM S.n x M) (hv : M.ver = (S.m x).ver) : aOK (S.setM x M) := by
  obtain ⟨a1, a2, a3, a4, a5⟩ := h
  refine ⟨a1, fun y hy => ?_, a3, a4, ?_⟩
  · by_cases hyx : y = x
    · subst hyx; rw [aS.setM_s]; exact hM
    · rw [aS.setM_n _ _ hyx]; exact a2 y hy
  · show S.ev.1 = exps (S.setM x M)
    rw [a5]
    refine (exps_congr (S := S) (S' := S.setM x M) rfl (fun y hy => ?_)).symm
    by_cases hyx : y = x
    · subst hyx; rw [aS.setM_s]; exact hv
    · rw [aS.setM_n _ _ hyx]
theorem aOK.setQ {S : aS} (h : aOK S) {T : aT} (hT : okMsg S.n T) : aOK (S.setQ T) := ⟨h.1, h.2.1, hT, h.2.2.2.1, h.2.2.2.2⟩
theorem okLog.push {n : Nat} {T : aT} (h : okLog n T) (hk : T.1 < 40) {a q v : Nat} (ha : a ≤ 2) (hq : q ≤ n) (hv : v < 1000) : okLog n (tpush T (row3 a q v)) := by
  refine ⟨hk, fun j hj => ?_⟩
  have hj : j < T.1 + 1 := hj
  show va_up T.2 T.1 (row3 a q v) j 0 ≤ 2 ∧ va_up T.2 T.1 (row3 a q v) j 1 ≤ n ∧ va_up T.2 T.1 (row3 a q v) j 2 < 1000
  by_cases hjk : j = T.1
  · subst hjk; rw [va_up_self]; exact ⟨ha, hq, hv⟩
  · rw [va_up_ne _ _ hjk]; exact h.2 j (by omega)
theorem okHeld.push {n : Nat} {T : aT} (h : okHeld n T) (hk : T.1 < 60) {a e c : Nat} (ha : a < n) (he : e < 40) (hc : c < 2147483647) : okHeld n (tpush T (row3 a e c)) := by
  refine ⟨hk, fun j hj => ?_⟩
  have hj : j < T.1 + 1 := hj
  show va_up T.2 T.1 (row3 a e c) j 0 < n ∧ va_up T.2 T.1 (row3 a e c) j 1 < 40 ∧ va_up T.2 T.1 (row3 a e c) j 2 < 2147483647
  by_cases hjk : j = T.1
  · subst hjk; rw [va_up_self]; exact ⟨ha, he, hc⟩
  · rw [va_up_ne _ _ hjk]; exact h.2 j (by omega)
theorem okHeld.pop {n : Nat} {T : aT} (h : okHeld n T) : okHeld n (tpop T) := ⟨Nat.le_trans (Nat.sub_le _ _) h.1, fun j hj => h.2 (j + 1) (by have hj : j < T.1 - 1 := hj; omega)⟩
theorem okHeld.hold {n : Nat} {T : aT} (h : okHeld n T) {a e c : Nat} (ha : a < n) (he : e < 40) (hc : c < 2147483647) : okHeld n (thold T (row3 a e c)) := by
  unfold thold
  by_cases h6 : T.1 = 60
  · rw [if_pos h6]
    exact h.pop.push (show T.1 - 1 < 60 by omega) ha he hc
  · rw [if_neg h6]
    exact h.push (by have := h.1; omega) ha he hc
theorem okMsg.push {n : Nat} {T : aT} (h : okMsg n T) (hk : T.1 < 40) {r : Nat → Nat} (hr : r 0 < n ∧ r 1 < 40 ∧ r 2 < 2147483647 ∧ r 3 < n ∧ r 4 < 1000) : okMsg n (tpush T r) := by
  refine ⟨hk, fun j hj => ?_⟩
  have hj : j < T.1 + 1 := hj
  show va_up T.2 T.1 r j 0 < n ∧ va_up T.2 T.1 r j 1 < 40 ∧ va_up T.2 T.1 r j 2 < 2147483647 ∧ va_up T.2 T.1 r j 3 < n ∧ va_up T.2 T.1 r j 4 < 1000
  by_cases hjk : j = T.1
  · subst hjk; rw [va_up_self]; exact hr
  · rw [va_up_ne _ _ hjk]; exact h.2 j (by omega)
theorem okMsg.pop {n : Nat} {T : aT} (h : okMsg n T) : okMsg n (tpop T) := ⟨Nat.le_trans (Nat.sub_le _ _) h.1, fun j hj => h.2 (j + 1) (by have hj : j < T.1 - 1 := hj; omega)⟩
theorem aOK.hold {S : aS} (h : aOK S) {x : Nat} (hx : x < S.n) {a e c : Nat} (ha : a < S.n) (he : e < 40) (hc : c < 2147483647) : aOK (aHold S x (row3 a e c)) :=
  h.setM hx ⟨(h.m hx).1, (h.m hx).2.1, (h.m hx).log, (h.m hx).held.hold ha he hc, (h.m hx).pend⟩ rfl
theorem aOK.popQ {S : aS} (h : aOK S) : aOK (aPopQ S) := h.setQ h.q.pop
theorem aOK.pendM {S : aS} (h : aOK S) {x : Nat} (hx : x < S.n) {r : Nat → Nat} (hr : r 0 < S.n ∧ r 1 < 40 ∧ r 2 < 2147483647 ∧ r 3 < S.n ∧ r 4 < 1000) : aOK (aPend S x r) := by
  refine h.setM hx ⟨(h.m hx).1, (h.m hx).2.1, (h.m hx).log, (h.m hx).held, ?_⟩ rfl
  show okMsg S.n (if (S.m x).pend.1 < 40 then tpush (S.m x).pend r else (S.m x).pend)
  by_cases h4 : (S.m x).pend.1 < 40
  · rw [if_pos h4]; exact (h.m hx).pend.push h4 hr
  · rw [if_neg h4]; exact (h.m hx).pend
theorem aOK.send {S : aS} (h : aOK S) {x : Nat} (hx : x < S.n) (hl : (S.m x).log.1 < 40) (hq : S.q.1 < 40) : aOK (aSend S x) := by
  have hg : gt x (S.m x).st S.n < S.n := gt_lt h.n2
  have ho : ((S.m x).st % 1000 + (S.m x).lie) % 1000 < 1000 := Nat.mod_lt _ (by omega)
  have hM : okM S.n x (((S.m x).setLie 0).setLog (tpush (S.m x).log (row3 2 (gt x (S.m x).st S.n + 1) (((S.m x).st % 1000 + (S.m x).lie) % 1000)))) :=
    ⟨⟨(h.m hx).st, (h.m hx).sil, by show 0 < 2; omega, (h.m hx).wit, (h.m hx).nw⟩, (h.m hx).2.1, (h.m hx).log.push hl (by omega) (by omega) ho, (h.m hx).held, (h.m hx).pend⟩
  exact (h.setM hx hM rfl).setQ (h.q.push hq ⟨hx, hl, CH_lt _ _, hg, ho⟩)
theorem aOK.tk1 {S : aS} (h : aOK S) {x : Nat} (hx : x < S.n) (hl : (S.m x).log.1 < 40) {a q v : Nat} (ha : a ≤ 2) (hq : q ≤ S.n) (hv : v < 1000) : aOK (aTk1 S x a q v) :=
  h.setM hx ⟨⟨nx_lt _ _ _, (h.m hx).sil, (h.m hx).lie, (h.m hx).wit, (h.m hx).nw⟩, (h.m hx).2.1, (h.m hx).log.push hl ha hq hv, (h.m hx).held, (h.m hx).pend⟩ rfl
theorem aOK.take {S : aS} (h : aOK S) {x : Nat} (hx : x < S.n) (hl : (S.m x).log.1 ≤ 38) (hQ : S.q.1 < 40) {a q v : Nat} (ha : a ≤ 2) (hq : q ≤ S.n) (hv : v < 1000) : aOK (aTake S x a q v) := by
  have h1 := h.tk1 hx (show (S.m x).log.1 < 40 by omega) ha hq hv
  unfold aTake
  split
  · refine h1.send hx ?_ hQ
    unfold aTk1
    rw [aS.setM_s]
    show (S.m x).log.1 + 1 < 40
    omega
  · exact h1
theorem aTk1_n (S : aS) (x a q v : Nat) : (aTk1 S x a q v).n = S.n := rfl
theorem aTake_n (S : aS) (x a q v : Nat) : (aTake S x a q v).n = S.n := by unfold aTake; split <;> rfl
theorem aDel_n (S : aS) : (aDel S).n = S.n := by
  unfold aDel
  split
  · show (aTake _ _ _ _ _).n = S.n
    rw [aTake_n]; rfl
  · rfl
theorem aOK.del {S : aS} (h : aOK S) (hc : aCan S = true) : aOK (aDel S) := by
  obtain ⟨h0, hc⟩ := aCan_iff.mp hc
  have hm := h.q.2 0 h0
  unfold aDel
  split
  next hs =>
    have hl : (S.m (S.q.2 0 3)).log.1 ≤ 38 := hc.elim (fun q => absurd hs q) id
    have h1 := (h.hold hm.2.2.2.1 hm.1 hm.2.1 hm.2.2.1).popQ
    have h2 := h1.take (x := S.q.2 0 3) (a := 1) (q := S.q.2 0 0 + 1) (v := S.q.2 0 4) hm.2.2.2.1 (by
      show ((aHold S (S.q.2 0 3) _).m (S.q.2 0 3)).log.1 ≤ 38
      unfold aHold
      rw [aS.setM_s]; exact hl) (by show S.q.1 - 1 < 40; have := h.q.1; omega) (by omega) (by show S.q.2 0 0 + 1 ≤ S.n; omega) hm.2.2.2.2
    refine h2.hold (by rw [aTake_n]; exact hm.1) (by rw [aTake_n]; exact hm.2.2.2.1) (by omega) (CH_lt _ _)
  next hs =>
    exact (h.pendM hm.2.2.2.1 hm).popQ
/-- the cells behind each change -/
theorem snd_wI {z : zM} {b x : Nat} {S : aS} (hI : wI z b S) (hn6 : S.n ≤ 6) (hx : x < S.n) (hl : (S.m x).log.1 < 40) (hh : (S.m x).held.1 ≤ 60) (hp : (S.m x).pend.1 ≤ 40) (hq : S.q.1 < 40) : wI (sndz z b x S.n (S.m x).st (S.m x).lie S.q.1 (S.m x).log) b (aSend S x) ∧ zfr z (sndz z b x S.n (S.m x).st (S.m x).lie S.q.1 (S.m x).log) b 54 := by
  have hm := hI.m hx
  have h1 := hm.lie 0
  have hf1 : zfr z (zi z (b + 2 + 8 * x) 3 (nI 0)) (b + 2 + 8 * x) 8 := (zi_fr _ _ _ _).mono (by omega) (by omega)
  have h2 := h1.logc (lapp_fr _ _ (S.m x).log.1 2 (gt x (S.m x).st S.n + 1) (outv (S.m x).st (S.m x).lie) (CH (S.m x).log.2 (S.m x).log.1)) (lapp_log h1.2.2.1 _ _ _)
  have hf2 := hf1.tr ((lapp_fr (zi z (b + 2 + 8 * x) 3 (nI 0)) (b + 2 + 8 * x + 2) (S.m x).log.1 2 (gt x (S.m x).st S.n + 1) (outv (S.m x).st (S.m x).lie) (CH (S.m x).log.2 (S.m x).log.1)).mono (lo2 := b + 2 + 8 * x) (n2 := 8) (by omega) (by omega))
  have h3 := hI.setM (show x < 6 by omega) hf2 h2 (show (S.m x).log.1 + 1 ≤ 40 by omega) hh hp
  have h4 := row5z_tb h3.q x (S.m x).log.1 (CH (tpush (S.m x).log (row3 2 (gt x (S.m x).st S.n + 1) (outv (S.m x).st (S.m x).lie))).2 ((S.m x).log.1 + 1)) (gt x (S.m x).st S.n) (outv (S.m x).st (S.m x).lie)
  have h5 := h3.setQ (row5z_fr _ _ _ _ _ _ _ _) h4 (show S.q.1 + 1 ≤ 40 by omega) hn6
  exact ⟨h5, (hf2.mono (by omega) (by omega)).tr ((row5z_fr _ _ _ _ _ _ _ _).mono (by omega) (by omega))⟩
theorem tk1_wI {z : zM} {b x : Nat} {S : aS} (hI : wI z b S) (hn6 : S.n ≤ 6) (hx : x < S.n) (hl : (S.m x).log.1 < 40) (hh : (S.m x).held.1 ≤ 60) (hp : (S.m x).pend.1 ≤ 40) (a q v : Nat) : wI (tkz1 z b x (S.m x).st (S.m x).log a q v) b (aTk1 S x a q v) ∧ zfr z (tkz1 z b x (S.m x).st (S.m x).log a q v) b 54 := by
  have hm := hI.m hx
  have h1 := hm.logc (lapp_fr z _ (S.m x).log.1 a q v (CH (S.m x).log.2 (S.m x).log.1)) (lapp_log hm.2.2.1 _ _ _)
  have h2 := h1.st (nx (S.m x).st v q)
  have hf : zfr z (tkz1 z b x (S.m x).st (S.m x).log a q v) (b + 2 + 8 * x) 8 := ((lapp_fr _ _ _ _ _ _ _).mono (by omega) (by omega)).tr ((zi_fr _ _ _ _).mono (by omega) (by omega))
  exact ⟨hI.setM (by omega) hf h2 (show (S.m x).log.1 + 1 ≤ 40 by omega) hh hp, hf.mono (by omega) (by omega)⟩
theorem tk_wI {z : zM} {b x : Nat} {S : aS} (hI : wI z b S) (hn6 : S.n ≤ 6) (hx : x < S.n) (hl : (S.m x).log.1 ≤ 38) (hh : (S.m x).held.1 ≤ 60) (hp : (S.m x).pend.1 ≤ 40) (hq : S.q.1 < 40) (a q v : Nat) : wI (tkz z b x S.n (S.m x).st (S.m x).lie S.q.1 (S.m x).log a q v) b (aTake S x a q v) ∧ zfr z (tkz z b x S.n (S.m x).st (S.m x).lie S.q.1 (S.m x).log a q v) b 54 := by
  obtain ⟨h1, hf1⟩ := tk1_wI hI hn6 hx (by omega) hh hp a q v
  unfold tkz aTake
  split
  · have hs : (aTk1 S x a q v).m x = ((S.m x).setLog (tpush (S.m x).log (row3 a q v))).setSt (nx (S.m x).st v q) := aS.setM_s _ _ _
    have h2 := snd_wI (x := x) h1 hn6 hx (by rw [hs]; show (S.m x).log.1 + 1 < 40; omega) (by rw [hs]; exact hh) (by rw [hs]; exact hp) hq
    rw [hs] at h2
    exact ⟨h2.1, hf1.tr h2.2⟩
  · exact ⟨h1, hf1⟩
theorem hold_wI {z : zM} {b x : Nat} {S : aS} (hI : wI z b S) (hx : x < S.n) (hn6 : S.n ≤ 6) (hl : (S.m x).log.1 ≤ 40) (hh : (S.m x).held.1 ≤ 60) (hp : (S.m x).pend.1 ≤ 40) (a e c : Nat) : wI (hdz z (b + 2 + 8 * x + 4) (S.m x).held.1 (nI a) (nI e) (nI c)) b (aHold S x (row3 a e c)) ∧ zfr z (hdz z (b + 2 + 8 * x + 4) (S.m x).held.1 (nI a) (nI e) (nI c)) b 54 := by
  have hm := hI.m hx
  have h1 := hm.heldc (hdz_fr _ _ _ _ _ _) (hdz_tb hm.2.2.2.1 a e c)
  have hf : zfr z (hdz z (b + 2 + 8 * x + 4) (S.m x).held.1 (nI a) (nI e) (nI c)) (b + 2 + 8 * x) 8 := (hdz_fr _ _ _ _ _ _).mono (by omega) (by omega)
  refine ⟨hI.setM (by omega) hf h1 hl ?_ hp, hf.mono (by omega) (by omega)⟩
  show (thold (S.m x).held (row3 a e c)).1 ≤ 60
  unfold thold
  by_cases h6 : (S.m x).held.1 = 60
  · rw [if_pos h6]; show (S.m x).held.1 - 1 + 1 ≤ 60; omega
  · rw [if_neg h6]; show (S.m x).held.1 + 1 ≤ 60; omega
theorem popq_wI {z : zM} {b : Nat} {S : aS} (hI : wI z b S) (hn6 : S.n ≤ 6) (hq : S.q.1 ≤ 40) (h0 : 0 < S.q.1) : wI (rmv z (b + 50) 5 S.q.1) b (aPopQ S) ∧ zfr z (rmv z (b + 50) 5 S.q.1) b 54 :=
  ⟨hI.setQ (rmv_fr _ _ _ _) (hI.q.pop h0) (show S.q.1 - 1 ≤ 40 by omega) hn6, (rmv_fr _ _ _ _).mono (by omega) (by omega)⟩
theorem acz_fr (z : zM) (t o w k r c : Nat) (v : Int32) : zfr z (acz (zi z t 3 v) t o w k r c) t 2 := ((zi_fr _ _ _ _).mono (by omega) (by omega)).tr ((zr_fr _ _ _).mono (by omega) (by omega))
theorem acz_tb {z : zM} {t o w : Nat} {T T2 : aT} (h : rTb z t w T) (h2 : rTb z o w T2) (hne : o + 2 ≤ t ∨ t + 2 ≤ o) {r : Nat} (hr : r < T2.1) : rTb (acz (zi z t 3 (nI (T.1 + 1))) t o w T.1 r w) t w (tpush T (T2.2 r)) := by
  refine h.push ?_ (fun i hi => ?_) (fun c hc => ?_)
  · rw [acz_n _ _ _ _ _ _ (by omega), zi_at, if_pos ⟨rfl, rfl⟩]
  · rw [acz_at, if_neg (by omega), zi_at, if_neg (by omega)]
  · rw [acz_at, if_pos (by omega), zi_at, if_neg (by omega), Nat.add_sub_cancel_left]
    exact h2.2 r hr c hc
def pndz (z : zM) (b x k : Nat) : zM := if k < 40 then acz (zi z (b + 2 + 8 * x + 6) 3 (nI (k + 1))) (b + 2 + 8 * x + 6) (b + 50) 5 k 0 5 else z
theorem pnd_wI {z : zM} {b x : Nat} {S : aS} (hI : wI z b S) (hx : x < S.n) (hn6 : S.n ≤ 6) (hl : (S.m x).log.1 ≤ 40) (hh : (S.m x).held.1 ≤ 60) (hp : (S.m x).pend.1 ≤ 40) (h0 : 0 < S.q.1) : wI (pndz z b x (S.m x).pend.1) b (aPend S x (S.q.2 0)) ∧ zfr z (pndz z b x (S.m x).pend.1) b 54 := by
  have hm := hI.m hx
  unfold pndz aPend
  by_cases h4 : (S.m x).pend.1 < 40
  · rw [if_pos h4, if_pos h4]
    have h1 := hm.pendc (acz_fr _ _ _ _ _ _ _ _) (acz_tb (r := 0) hm.2.2.2.2 hI.q (by omega) h0)
    have hf := (acz_fr z (b + 2 + 8 * x + 6) (b + 50) 5 (S.m x).pend.1 0 5 (nI ((S.m x).pend.1 + 1))).mono (lo2 := b + 2 + 8 * x) (n2 := 8) (by omega) (by omega)
    exact ⟨hI.setM (by omega) hf h1 hl hh (show (S.m x).pend.1 + 1 ≤ 40 by omega), hf.mono (by omega) (by omega)⟩
  · rw [if_neg h4, if_neg h4]
    have h1 : rM z (b + 2 + 8 * x) ((S.m x).setPend (S.m x).pend) := hm
    exact ⟨hI.setM (by omega) (zfr.rf _ _ _) h1 hl hh hp, zfr.rf _ _ _⟩
end
section
/-! ===== how many pieces of evidence there can be; audits keep the invariant; the first world ===== -/
theorem cnt_le (f : Nat → Bool) (k : Nat) : cnt f k ≤ k := by
  induction k with
  | zero => exact Nat.le_refl _
  | succ k ih => rw [cnt]; split <;> omega
theorem cnt_le1 {f : Nat → Bool} {a : Nat} (ha : f a = false) : ∀ k, a < k → cnt f k + 1 ≤ k := by
  intro k
  induction k with
  | zero => intro h; omega
  | succ k ih =>
    intro h
    rw [cnt]
    by_cases hk : a = k
    · subst hk
      rw [ha]
      have := cnt_le f a
      simp
      exact this
    · have := ih (by omega)
      split <;> omega
theorem cnt_le2 {f : Nat → Bool} {a c : Nat} (ha : f a = false) (hc : f c = false) (hne : a ≠ c) : ∀ k, a < k → c < k → cnt f k + 2 ≤ k := by
  intro k
  induction k with
  | zero => intro h; omega
  | succ k ih =>
    intro h1 h2
    rw [cnt]
    by_cases hk : a = k
    · subst hk
      have := cnt_le1 hc a (by omega)
      rw [ha]
      simp only [Bool.false_eq_true, if_false]
      omega
    · by_cases hk2 : c = k
      · subst hk2
        have := cnt_le1 ha c (by omega)
        rw [hc]
        simp only [Bool.false_eq_true, if_false]
        omega
      · have := ih (by omega) (by omega)
        split <;> omega
theorem cnt_flip {f g : Nat → Bool} {a : Nat} (ha : f a = false) (hg : g a = true) (h : ∀ i, i ≠ a → g i = f i) : ∀ k, a < k → cnt g k = cnt f k + 1 := by
  intro k
  induction k with
  | zero => intro h; omega
  | succ k ih =>
    intro hk
    rw [cnt, cnt]
    by_cases hak : a = k
    · subst hak
      rw [ha, hg, cnt_congr (fun i hi => h i (by omega))]
      simp
    · rw [ih (by omega), h k (Ne.symm hak)]
      split <;> omega
theorem csum_up {f g : Nat → Nat} {a : Nat} (h : ∀ i, i ≠ a → g i = f i) (hg : g a = f a + 1) : ∀ k, a < k → csum g k = csum f k + 1 := by
  intro k
  induction k with
  | zero => intro h; omega
  | succ k ih =>
    intro hk
    rw [csum, csum]
    by_cases hak : a = k
    · subst hak
      rw [hg, csum_congr (fun i hi => h i (by omega))]
      omega
    · rw [ih (by omega), h k (Ne.symm hak)]
      omega
theorem csum_le {f : Nat → Nat} {c : Nat} : ∀ k, (∀ i, i < k → f i ≤ c) → csum f k ≤ k * c := by
  intro k
  induction k with
  | zero => intro _; exact Nat.zero_le _
  | succ k ih =>
    intro h
    rw [csum, Nat.succ_mul]
    have h1 := ih (fun i hi => h i (by omega))
    have h2 := h k (by omega)
    omega
theorem csum_lt {f : Nat → Nat} {c a : Nat} (ha : f a + 1 ≤ c) : ∀ k, a < k → (∀ i, i < k → f i ≤ c) → csum f k + 1 ≤ k * c := by
  intro k
  induction k with
  | zero => intro h; omega
  | succ k ih =>
    intro hk h
    rw [csum, Nat.succ_mul]
    by_cases hak : a = k
    · subst hak
      have h1 := csum_le (f := f) (c := c) a (fun i hi => h i (by omega))
      omega
    · have h1 := ih (by omega) (fun i hi => h i (by omega))
      have h2 := h k (by omega)
      omega
theorem exps_lt {S : aS} (h : aOK S) {x w : Nat} (hx : x < S.n) (hw : w < S.n) (hne : w ≠ x) (hv : ¬ (S.m x).ver w = 2) : S.ev.1 < 30 := by
  rw [h.2.2.2.2]
  have hd : ∀ y, y < S.n → decide ((S.m y).ver y = 2) = false := fun y hy => by
    have h1 : (S.m y).ver y = 0 := (h.m hy).2.1.2
    rw [h1]; decide
  have h1 : ∀ y, y < S.n → cnt (fun w => decide ((S.m y).ver w = 2)) S.n ≤ S.n - 1 := fun y hy => by
    have := cnt_le1 (f := fun w => decide ((S.m y).ver w = 2)) (a := y) (hd y hy) S.n hy
    omega
  have h2 := cnt_le2 (f := fun w => decide ((S.m x).ver w = 2)) (a := x) (c := w) (hd x hx) (decide_eq_false hv) (Ne.symm hne) S.n hx hw
  have h3 := csum_lt (f := fun y => cnt (fun w => decide ((S.m y).ver w = 2)) S.n) (c := S.n - 1) (a := x) (by show cnt _ _ + 1 ≤ _; omega) S.n hx h1
  have h4 : S.n * (S.n - 1) ≤ 6 * 5 := Nat.mul_le_mul h.n6 (by have := h.n6; omega)
  unfold exps
  omega
theorem jRe_v (S : aS) (w x : Nat) : (jRe S w x).1 ≤ 2 := by
  unfold jRe
  split
  · exact Nat.le_refl _
  · show (if 0 < (S.m x).pend.1 then 1 else 0) ≤ 2
    split <;> omega
theorem jdg_v (S : aS) (w x : Nat) : (jdg S w x).1 ≤ 2 := by
  unfold jdg
  split
  · exact Nat.le_refl _
  · split
    · show 1 ≤ 2; omega
    · split
      · exact Nat.le_refl _
      · exact jRe_v S w x
/-- an audit that finds something: the verdict is EXPOSED, and was not; and the other way round -/
theorem jdg_some {S : aS} (h : aOK S) {w x : Nat} (hx : x < S.n) {k : Nat × Nat} (hj : (jdg S w x).2 = some k) : (jdg S w x).1 = 2 ∧ ¬ (S.m x).ver w = 2 ∧ k.1 ≤ 1 ∧ k.2 ≤ 40 := by
  have hl := (h.m hx).log.1
  revert hj
  unfold jdg
  split
  · intro hj; cases hj
  · rename_i hv
    split
    · intro hj; cases hj
    · split
      · rename_i e he
        intro hj
        cases hj
        have := belA_lt h _ _ _ (by omega) he
        refine ⟨rfl, hv, by show 0 ≤ 1; omega, by show e ≤ 40; omega⟩
      · unfold jRe
        split
        · rename_i e he
          intro hj
          cases hj
          have := rpl_le _ _ _ _ he
          exact ⟨rfl, hv, Nat.le_refl _, by show e ≤ 40; omega⟩
        · intro hj; cases hj
theorem jdg_none {S : aS} {w x : Nat} (hj : (jdg S w x).2 = none) : (jdg S w x).1 = 2 ↔ (S.m x).ver w = 2 := by
  revert hj
  unfold jdg
  split
  · rename_i hv; intro _; exact ⟨fun _ => hv, fun _ => rfl⟩
  · rename_i hv
    split
    · intro _
      exact ⟨fun h => absurd (show (1 : Nat) = 2 from h) (by omega), fun h => absurd h hv⟩
    · split
      · intro hj; cases hj
      · unfold jRe
        split
        · intro hj; cases hj
        · intro _
          refine ⟨fun h => ?_, fun h => absurd h hv⟩
          have h : (if 0 < (S.m x).pend.1 then 1 else 0) = 2 := h
          split at h <;> omega
theorem okEv.push {n : Nat} {T : aT} (h : okEv n T) (hk : T.1 < 30) {a c d e : Nat} (ha : a ≤ 1) (hc : c < n) (hd : d < n) (he : e ≤ 40) : okEv n (tpush T (row4 a c d e)) := by
  refine ⟨hk, fun j hj => ?_⟩
  have hj : j < T.1 + 1 := hj
  show va_up T.2 T.1 (row4 a c d e) j 0 ≤ 1 ∧ va_up T.2 T.1 (row4 a c d e) j 1 < n ∧ va_up T.2 T.1 (row4 a c d e) j 2 < n ∧ va_up T.2 T.1 (row4 a c d e) j 3 ≤ 40
  by_cases hjk : j = T.1
  · subst hjk; rw [va_up_self]; exact ⟨ha, hc, hd, he⟩
  · rw [va_up_ne _ _ hjk]; exact h.2 j (by omega)
theorem aJ_n (S : aS) (w x : Nat) (o : Option (Nat × Nat)) : (aJ S w x o).n = S.n := by cases o <;> rfl
theorem aJ_m (S : aS) (w x : Nat) (o : Option (Nat × Nat)) : (aJ S w x o).m = S.m := by cases o <;> rfl
theorem aJ_q (S : aS) (w x : Nat) (o : Option (Nat × Nat)) : (aJ S w x o).q = S.q := by cases o <;> rfl
theorem aAud_n (S : aS) (w x : Nat) : (aAud S w x).n = S.n := aJ_n _ _ _ _
theorem aAud_ms (S : aS) (w x : Nat) : (aAud S w x).m x = (S.m x).setVer (va_up (S.m x).ver w (jdg S w x).1) := aS.setM_s _ _ _
theorem aAud_mn (S : aS) (w : Nat) {x y : Nat} (h : y ≠ x) : (aAud S w x).m y = S.m y := by
  unfold aAud
  rw [aS.setM_n _ _ h, aJ_m]
theorem aOK.aud {S : aS} (h : aOK S) {w x : Nat} (hx : x < S.n) (hw : w < S.n) (hne : w ≠ x) : aOK (aAud S w x) := by
  have hv := jdg_v S w x
  have hM : okM S.n x ((S.m x).setVer (va_up (S.m x).ver w (jdg S w x).1)) := by
    refine ⟨(h.m hx).1, ⟨fun y => ?_, ?_⟩, (h.m hx).log, (h.m hx).held, (h.m hx).pend⟩
    · show va_up (S.m x).ver w (jdg S w x).1 y ≤ 2
      by_cases hy : y = w
      · subst hy; rw [va_up_self]; exact hv
      · rw [va_up_ne _ _ hy]; exact (h.m hx).ver y
    · show va_up (S.m x).ver w (jdg S w x).1 x = 0
      rw [va_up_ne _ _ (Ne.symm hne)]
      exact (h.m hx).2.1.2
  have hm : ∀ y, y < S.n → okM S.n y ((aAud S w x).m y) := fun y hy => by
    by_cases hyx : y = x
    · subst hyx; rw [aAud_ms]; exact hM
    · rw [aAud_mn _ _ hyx]; exact h.m hy
  have hrow : ∀ y, y ≠ x → cnt (fun w' => decide (((aAud S w x).m y).ver w' = 2)) S.n = cnt (fun w' => decide ((S.m y).ver w' = 2)) S.n := fun y hy => by rw [aAud_mn _ _ hy]
  refine ⟨by rw [aAud_n]; exact h.1, fun y hy => ?_, ?_, ?_, ?_⟩
  · rw [aAud_n] at hy ⊢
    exact hm y hy
  · rw [aAud_n]; show okMsg S.n (aJ S w x (jdg S w x).2).q; rw [aJ_q]; exact h.q
  · rw [aAud_n]
    show okEv S.n (aJ S w x (jdg S w x).2).ev
    cases hj : (jdg S w x).2 with
    | none => exact h.e
    | some k =>
      obtain ⟨j1, j2, j3, j4⟩ := jdg_some h hx hj
      exact h.e.push (exps_lt h hx hw hne j2) j3 hx hw j4
  · unfold exps
    rw [aAud_n]
    show (aJ S w x (jdg S w x).2).ev.1 = _
    cases hj : (jdg S w x).2 with
    | none =>
      show S.ev.1 = _
      rw [h.2.2.2.2]
      unfold exps
      refine csum_congr (fun y hy => ?_)
      by_cases hyx : y = x
      · subst hyx
        refine cnt_congr (fun w' _ => ?_)
        rw [aAud_ms]
        show _ = decide (va_up (S.m y).ver w (jdg S w y).1 w' = 2)
        by_cases hww : w' = w
        · subst hww
          rw [va_up_self]
          exact decide_eq_decide.mpr (jdg_none hj).symm
        · rw [va_up_ne _ _ hww]
      · exact (hrow y hyx).symm
    | some k =>
      obtain ⟨j1, j2, -, -⟩ := jdg_some h hx hj
      show S.ev.1 + 1 = _
      rw [h.2.2.2.2]
      refine (csum_up (f := fun y => cnt (fun w' => decide ((S.m y).ver w' = 2)) S.n) (a := x) hrow ?_ S.n hx).symm
      refine cnt_flip (a := w) (decide_eq_false j2) ?_ (fun w' hw' => ?_) S.n hw
      · rw [aAud_ms]
        show decide (va_up (S.m x).ver w (jdg S w x).1 w = 2) = true
        rw [va_up_self, j1]; rfl
      · rw [aAud_ms]
        show decide (va_up (S.m x).ver w (jdg S w x).1 w' = 2) = _
        rw [va_up_ne _ _ hw']
/-- the first world of n machines -/
def oth (x n : Nat) : Nat := 2 ^ n - 1 - 2 ^ x
theorem oth_dec : ∀ n, n < 7 → ∀ x, x < n → othI x n = nI (oth x n) ∧ oth x n < 2 ^ n ∧ (oth x n).testBit x = false := by decide +kernel
def aM0 (x n : Nat) : aM := ((x, 0, 0, oth x n), fun _ => 0, (0, fun _ _ => 0), (0, fun _ _ => 0), (0, fun _ _ => 0))
def aI (n : Nat) : aS := (n, fun x => aM0 x n, (0, fun _ _ => 0), (0, fun _ _ => 0))
theorem aOK_I {n : Nat} (h2 : 2 ≤ n) (h6 : n ≤ 6) : aOK (aI n) := by
  refine ⟨⟨h2, h6⟩, fun x hx => ?_, ⟨Nat.zero_le _, fun j hj => absurd hj (Nat.not_lt_zero _)⟩, ⟨Nat.zero_le _, fun j hj => absurd hj (Nat.not_lt_zero _)⟩, ?_⟩
  · have hx : x < n := hx
    obtain ⟨-, h3, h4⟩ := oth_dec n (by omega) x hx
    exact ⟨⟨by show x < 9973; omega, by show 0 < 2; omega, by show 0 < 2; omega, h3, h4⟩, ⟨fun w => Nat.zero_le _, rfl⟩, ⟨Nat.zero_le _, fun j hj => absurd hj (Nat.not_lt_zero _)⟩, ⟨Nat.zero_le _, fun j hj => absurd hj (Nat.not_lt_zero _)⟩, ⟨Nat.zero_le _, fun j hj => absurd hj (Nat.not_lt_zero _)⟩⟩
  · show 0 = exps (aI n)
    have h1 : ∀ k, cnt (fun _ => decide ((0 : Nat) = 2)) k = 0 := by
      intro k
      induction k with
      | zero => rfl
      | succ k ih => rw [cnt, ih]; rfl
    have h2 : ∀ m k, csum (fun _ => cnt (fun _ => decide ((0 : Nat) = 2)) m) k = 0 := by
      intro m k
      induction k with
      | zero => rfl
      | succ k ih => rw [csum, ih, h1]
    exact (h2 n n).symm
end
