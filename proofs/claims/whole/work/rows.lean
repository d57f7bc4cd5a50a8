section
-- ===== PART A: goes FIRST, ahead of the names: the tables' words, and 'selects' of the private methods out of them =====
/-- a private method of a class that the tables say can be made, by its rows of tables_1 -/
def lw_okq (q : MethodName × Nat) : Prop := (q.1.cls ≠ "java/lang/invoke/MethodHandle" ∧ q.1.cls ≠ "java/lang/invoke/VarHandle") ∧ Cond.instantiable q.1.cls q.2 ∈ tables_1 ∧ Cond.privateMethod q.1 ∈ tables_1 ∧ Cond.instanceMethod q.1 ∈ tables_1
theorem lw_p0 : lw_okq (⟨"TelegraphDesk", "shorten", "()V"⟩, 10) := ⟨⟨by decide +kernel, by decide +kernel⟩, List.mem_of_getElem? (i := 16) (by decide +kernel), List.mem_of_getElem? (i := 146) (by decide +kernel), List.mem_of_getElem? (i := 147) (by decide +kernel)⟩
theorem lw_p1 : lw_okq (⟨"TelegraphDesk$Parting", "part", "(LTelegraphDesk$Message;LTelegraphDesk$CodeBook;III)V"⟩, 5) := ⟨⟨by decide +kernel, by decide +kernel⟩, List.mem_of_getElem? (i := 54) (by decide +kernel), List.mem_of_getElem? (i := 154) (by decide +kernel), List.mem_of_getElem? (i := 155) (by decide +kernel)⟩
theorem lw_p2 : lw_okq (⟨"TelegraphDesk$Parting", "takeWord", "(I)V"⟩, 5) := ⟨⟨by decide +kernel, by decide +kernel⟩, List.mem_of_getElem? (i := 54) (by decide +kernel), List.mem_of_getElem? (i := 162) (by decide +kernel), List.mem_of_getElem? (i := 163) (by decide +kernel)⟩
theorem lw_p3 : lw_okq (⟨"TelegraphDesk$Parting", "takeIfBetter", "(III)V"⟩, 5) := ⟨⟨by decide +kernel, by decide +kernel⟩, List.mem_of_getElem? (i := 54) (by decide +kernel), List.mem_of_getElem? (i := 192) (by decide +kernel), List.mem_of_getElem? (i := 193) (by decide +kernel)⟩
theorem lw_p4 : lw_okq (⟨"TelegraphDesk$Parting", "listStarts", "(I)V"⟩, 5) := ⟨⟨by decide +kernel, by decide +kernel⟩, List.mem_of_getElem? (i := 54) (by decide +kernel), List.mem_of_getElem? (i := 200) (by decide +kernel), List.mem_of_getElem? (i := 201) (by decide +kernel)⟩
theorem lw_p5 : lw_okq (⟨"TelegraphDesk", "costOf", "(I)I"⟩, 10) := ⟨⟨by decide +kernel, by decide +kernel⟩, List.mem_of_getElem? (i := 16) (by decide +kernel), List.mem_of_getElem? (i := 241) (by decide +kernel), List.mem_of_getElem? (i := 242) (by decide +kernel)⟩
theorem lw_p6 : lw_okq (⟨"TelegraphDesk$Passage", "pass", "(I)V"⟩, 4) := ⟨⟨by decide +kernel, by decide +kernel⟩, List.mem_of_getElem? (i := 76) (by decide +kernel), List.mem_of_getElem? (i := 289) (by decide +kernel), List.mem_of_getElem? (i := 290) (by decide +kernel)⟩
theorem lw_p7 : lw_okq (⟨"TelegraphDesk$Passage", "isNextGarbled", "(I)Z"⟩, 4) := ⟨⟨by decide +kernel, by decide +kernel⟩, List.mem_of_getElem? (i := 76) (by decide +kernel), List.mem_of_getElem? (i := 293) (by decide +kernel), List.mem_of_getElem? (i := 294) (by decide +kernel)⟩
theorem lw_p8 : lw_okq (⟨"TelegraphDesk", "bestStart", "(I)I"⟩, 10) := ⟨⟨by decide +kernel, by decide +kernel⟩, List.mem_of_getElem? (i := 16) (by decide +kernel), List.mem_of_getElem? (i := 353) (by decide +kernel), List.mem_of_getElem? (i := 354) (by decide +kernel)⟩
theorem lw_p9 : lw_okq (⟨"TelegraphDesk", "withCodes", "(J)J"⟩, 10) := ⟨⟨by decide +kernel, by decide +kernel⟩, List.mem_of_getElem? (i := 16) (by decide +kernel), List.mem_of_getElem? (i := 361) (by decide +kernel), List.mem_of_getElem? (i := 362) (by decide +kernel)⟩
theorem lw_p10 : lw_okq (⟨"TelegraphDesk", "withWords", "(J)J"⟩, 10) := ⟨⟨by decide +kernel, by decide +kernel⟩, List.mem_of_getElem? (i := 16) (by decide +kernel), List.mem_of_getElem? (i := 370) (by decide +kernel), List.mem_of_getElem? (i := 371) (by decide +kernel)⟩
theorem lw_p11 : lw_okq (⟨"TelegraphDesk", "withGroups", "(J)J"⟩, 10) := ⟨⟨by decide +kernel, by decide +kernel⟩, List.mem_of_getElem? (i := 16) (by decide +kernel), List.mem_of_getElem? (i := 375) (by decide +kernel), List.mem_of_getElem? (i := 376) (by decide +kernel)⟩
theorem lw_p12 : lw_okq (⟨"java/lang/Throwable", "fillInStackTrace", "(I)Ljava/lang/Throwable;"⟩, 6) := ⟨⟨by decide +kernel, by decide +kernel⟩, List.mem_of_getElem? (i := 429) (by decide +kernel), List.mem_of_getElem? (i := 427) (by decide +kernel), List.mem_of_getElem? (i := 428) (by decide +kernel)⟩
theorem lw_p13 : lw_okq (⟨"TelegraphDeskModel", "fail", "(I)I"⟩, 17) := ⟨⟨by decide +kernel, by decide +kernel⟩, List.mem_of_getElem? (i := 624) (by decide +kernel), List.mem_of_getElem? (i := 696) (by decide +kernel), List.mem_of_getElem? (i := 697) (by decide +kernel)⟩
theorem lw_p14 : lw_okq (⟨"TelegraphDeskModel", "isCode", "(I)Z"⟩, 17) := ⟨⟨by decide +kernel, by decide +kernel⟩, List.mem_of_getElem? (i := 624) (by decide +kernel), List.mem_of_getElem? (i := 704) (by decide +kernel), List.mem_of_getElem? (i := 705) (by decide +kernel)⟩
theorem lw_p15 : lw_okq (⟨"TelegraphDeskModel", "told", "(I)I"⟩, 17) := ⟨⟨by decide +kernel, by decide +kernel⟩, List.mem_of_getElem? (i := 624) (by decide +kernel), List.mem_of_getElem? (i := 712) (by decide +kernel), List.mem_of_getElem? (i := 713) (by decide +kernel)⟩
def lw_privs_1 : List (MethodName × Nat) := [(⟨"TelegraphDesk", "shorten", "()V"⟩, 10), (⟨"TelegraphDesk$Parting", "part", "(LTelegraphDesk$Message;LTelegraphDesk$CodeBook;III)V"⟩, 5), (⟨"TelegraphDesk$Parting", "takeWord", "(I)V"⟩, 5), (⟨"TelegraphDesk$Parting", "takeIfBetter", "(III)V"⟩, 5), (⟨"TelegraphDesk$Parting", "listStarts", "(I)V"⟩, 5), (⟨"TelegraphDesk", "costOf", "(I)I"⟩, 10), (⟨"TelegraphDesk$Passage", "pass", "(I)V"⟩, 4), (⟨"TelegraphDesk$Passage", "isNextGarbled", "(I)Z"⟩, 4), (⟨"TelegraphDesk", "bestStart", "(I)I"⟩, 10), (⟨"TelegraphDesk", "withCodes", "(J)J"⟩, 10), (⟨"TelegraphDesk", "withWords", "(J)J"⟩, 10), (⟨"TelegraphDesk", "withGroups", "(J)J"⟩, 10), (⟨"java/lang/Throwable", "fillInStackTrace", "(I)Ljava/lang/Throwable;"⟩, 6), (⟨"TelegraphDeskModel", "fail", "(I)I"⟩, 17), (⟨"TelegraphDeskModel", "isCode", "(I)Z"⟩, 17), (⟨"TelegraphDeskModel", "told", "(I)I"⟩, 17)]
theorem lw_r1 : ∀ q ∈ lw_privs_1, lw_okq q := List.forall_mem_cons.mpr ⟨lw_p0, List.forall_mem_cons.mpr ⟨lw_p1, List.forall_mem_cons.mpr ⟨lw_p2, List.forall_mem_cons.mpr ⟨lw_p3, List.forall_mem_cons.mpr ⟨lw_p4, List.forall_mem_cons.mpr ⟨lw_p5, List.forall_mem_cons.mpr ⟨lw_p6, List.forall_mem_cons.mpr ⟨lw_p7, List.forall_mem_cons.mpr ⟨lw_p8, List.forall_mem_cons.mpr ⟨lw_p9, List.forall_mem_cons.mpr ⟨lw_p10, List.forall_mem_cons.mpr ⟨lw_p11, List.forall_mem_cons.mpr ⟨lw_p12, List.forall_mem_cons.mpr ⟨lw_p13, List.forall_mem_cons.mpr ⟨lw_p14, List.forall_mem_cons.mpr ⟨lw_p15, fun _ h => absurd h List.not_mem_nil⟩⟩⟩⟩⟩⟩⟩⟩⟩⟩⟩⟩⟩⟩⟩⟩
theorem lw_p16 : lw_okq (⟨"TelegraphDeskModel", "all", "()I"⟩, 17) := ⟨⟨by decide +kernel, by decide +kernel⟩, List.mem_of_getElem? (i := 624) (by decide +kernel), List.mem_of_getElem? (i := 744) (by decide +kernel), List.mem_of_getElem? (i := 745) (by decide +kernel)⟩
theorem lw_p17 : lw_okq (⟨"TelegraphDeskModel", "part", "(II)V"⟩, 17) := ⟨⟨by decide +kernel, by decide +kernel⟩, List.mem_of_getElem? (i := 624) (by decide +kernel), List.mem_of_getElem? (i := 748) (by decide +kernel), List.mem_of_getElem? (i := 749) (by decide +kernel)⟩
theorem lw_p18 : lw_okq (⟨"TelegraphDeskModel", "keyAt", "(II)I"⟩, 17) := ⟨⟨by decide +kernel, by decide +kernel⟩, List.mem_of_getElem? (i := 624) (by decide +kernel), List.mem_of_getElem? (i := 752) (by decide +kernel), List.mem_of_getElem? (i := 753) (by decide +kernel)⟩
theorem lw_p19 : lw_okq (⟨"TelegraphDeskModel", "start", "(I)I"⟩, 17) := ⟨⟨by decide +kernel, by decide +kernel⟩, List.mem_of_getElem? (i := 624) (by decide +kernel), List.mem_of_getElem? (i := 760) (by decide +kernel), List.mem_of_getElem? (i := 761) (by decide +kernel)⟩
theorem lw_p20 : lw_okq (⟨"TelegraphDeskModel", "next", "(I)I"⟩, 17) := ⟨⟨by decide +kernel, by decide +kernel⟩, List.mem_of_getElem? (i := 624) (by decide +kernel), List.mem_of_getElem? (i := 764) (by decide +kernel), List.mem_of_getElem? (i := 765) (by decide +kernel)⟩
theorem lw_p21 : lw_okq (⟨"TelegraphDeskModel", "uses", "(I)I"⟩, 17) := ⟨⟨by decide +kernel, by decide +kernel⟩, List.mem_of_getElem? (i := 624) (by decide +kernel), List.mem_of_getElem? (i := 776) (by decide +kernel), List.mem_of_getElem? (i := 777) (by decide +kernel)⟩
theorem lw_p22 : lw_okq (⟨"TelegraphDeskModel", "count", "()I"⟩, 17) := ⟨⟨by decide +kernel, by decide +kernel⟩, List.mem_of_getElem? (i := 624) (by decide +kernel), List.mem_of_getElem? (i := 784) (by decide +kernel), List.mem_of_getElem? (i := 785) (by decide +kernel)⟩
theorem lw_p23 : lw_okq (⟨"TelegraphDeskModel", "priceNow", "()I"⟩, 17) := ⟨⟨by decide +kernel, by decide +kernel⟩, List.mem_of_getElem? (i := 624) (by decide +kernel), List.mem_of_getElem? (i := 792) (by decide +kernel), List.mem_of_getElem? (i := 793) (by decide +kernel)⟩
theorem lw_p24 : lw_okq (⟨"TelegraphDeskModel", "price", "(I)I"⟩, 17) := ⟨⟨by decide +kernel, by decide +kernel⟩, List.mem_of_getElem? (i := 624) (by decide +kernel), List.mem_of_getElem? (i := 796) (by decide +kernel), List.mem_of_getElem? (i := 797) (by decide +kernel)⟩
theorem lw_p25 : lw_okq (⟨"TelegraphDeskModel", "priceOfWords", "()I"⟩, 17) := ⟨⟨by decide +kernel, by decide +kernel⟩, List.mem_of_getElem? (i := 624) (by decide +kernel), List.mem_of_getElem? (i := 805) (by decide +kernel), List.mem_of_getElem? (i := 806) (by decide +kernel)⟩
theorem lw_p26 : lw_okq (⟨"TelegraphDeskModel", "go", "(II)V"⟩, 17) := ⟨⟨by decide +kernel, by decide +kernel⟩, List.mem_of_getElem? (i := 624) (by decide +kernel), List.mem_of_getElem? (i := 817) (by decide +kernel), List.mem_of_getElem? (i := 818) (by decide +kernel)⟩
theorem lw_p27 : lw_okq (⟨"TelegraphDeskModel", "until", "()I"⟩, 17) := ⟨⟨by decide +kernel, by decide +kernel⟩, List.mem_of_getElem? (i := 624) (by decide +kernel), List.mem_of_getElem? (i := 844) (by decide +kernel), List.mem_of_getElem? (i := 845) (by decide +kernel)⟩
theorem lw_p28 : lw_okq (⟨"TelegraphDeskModel", "garbled", "()I"⟩, 17) := ⟨⟨by decide +kernel, by decide +kernel⟩, List.mem_of_getElem? (i := 624) (by decide +kernel), List.mem_of_getElem? (i := 852) (by decide +kernel), List.mem_of_getElem? (i := 853) (by decide +kernel)⟩
theorem lw_p29 : lw_okq (⟨"TelegraphDeskModel", "again", "()I"⟩, 17) := ⟨⟨by decide +kernel, by decide +kernel⟩, List.mem_of_getElem? (i := 624) (by decide +kernel), List.mem_of_getElem? (i := 860) (by decide +kernel), List.mem_of_getElem? (i := 861) (by decide +kernel)⟩
theorem lw_p30 : lw_okq (⟨"TelegraphDeskModel", "wanted", "()I"⟩, 17) := ⟨⟨by decide +kernel, by decide +kernel⟩, List.mem_of_getElem? (i := 624) (by decide +kernel), List.mem_of_getElem? (i := 868) (by decide +kernel), List.mem_of_getElem? (i := 869) (by decide +kernel)⟩
theorem lw_p31 : lw_okq (⟨"TelegraphDeskModel", "useless", "()I"⟩, 17) := ⟨⟨by decide +kernel, by decide +kernel⟩, List.mem_of_getElem? (i := 624) (by decide +kernel), List.mem_of_getElem? (i := 876) (by decide +kernel), List.mem_of_getElem? (i := 877) (by decide +kernel)⟩
def lw_privs_2 : List (MethodName × Nat) := [(⟨"TelegraphDeskModel", "all", "()I"⟩, 17), (⟨"TelegraphDeskModel", "part", "(II)V"⟩, 17), (⟨"TelegraphDeskModel", "keyAt", "(II)I"⟩, 17), (⟨"TelegraphDeskModel", "start", "(I)I"⟩, 17), (⟨"TelegraphDeskModel", "next", "(I)I"⟩, 17), (⟨"TelegraphDeskModel", "uses", "(I)I"⟩, 17), (⟨"TelegraphDeskModel", "count", "()I"⟩, 17), (⟨"TelegraphDeskModel", "priceNow", "()I"⟩, 17), (⟨"TelegraphDeskModel", "price", "(I)I"⟩, 17), (⟨"TelegraphDeskModel", "priceOfWords", "()I"⟩, 17), (⟨"TelegraphDeskModel", "go", "(II)V"⟩, 17), (⟨"TelegraphDeskModel", "until", "()I"⟩, 17), (⟨"TelegraphDeskModel", "garbled", "()I"⟩, 17), (⟨"TelegraphDeskModel", "again", "()I"⟩, 17), (⟨"TelegraphDeskModel", "wanted", "()I"⟩, 17), (⟨"TelegraphDeskModel", "useless", "()I"⟩, 17)]
theorem lw_r2 : ∀ q ∈ lw_privs_2, lw_okq q := List.forall_mem_cons.mpr ⟨lw_p16, List.forall_mem_cons.mpr ⟨lw_p17, List.forall_mem_cons.mpr ⟨lw_p18, List.forall_mem_cons.mpr ⟨lw_p19, List.forall_mem_cons.mpr ⟨lw_p20, List.forall_mem_cons.mpr ⟨lw_p21, List.forall_mem_cons.mpr ⟨lw_p22, List.forall_mem_cons.mpr ⟨lw_p23, List.forall_mem_cons.mpr ⟨lw_p24, List.forall_mem_cons.mpr ⟨lw_p25, List.forall_mem_cons.mpr ⟨lw_p26, List.forall_mem_cons.mpr ⟨lw_p27, List.forall_mem_cons.mpr ⟨lw_p28, List.forall_mem_cons.mpr ⟨lw_p29, List.forall_mem_cons.mpr ⟨lw_p30, List.forall_mem_cons.mpr ⟨lw_p31, fun _ h => absurd h List.not_mem_nil⟩⟩⟩⟩⟩⟩⟩⟩⟩⟩⟩⟩⟩⟩⟩⟩
theorem lw_p32 : lw_okq (⟨"TelegraphDeskModel", "bestNew", "(I)I"⟩, 17) := ⟨⟨by decide +kernel, by decide +kernel⟩, List.mem_of_getElem? (i := 624) (by decide +kernel), List.mem_of_getElem? (i := 884) (by decide +kernel), List.mem_of_getElem? (i := 885) (by decide +kernel)⟩
def lw_privs_3 : List (MethodName × Nat) := [(⟨"TelegraphDeskModel", "bestNew", "(I)I"⟩, 17)]
theorem lw_r3 : ∀ q ∈ lw_privs_3, lw_okq q := List.forall_mem_cons.mpr ⟨lw_p32, fun _ h => absurd h List.not_mem_nil⟩
def lw_privs : List (MethodName × Nat) := lw_privs_1 ++ (lw_privs_2 ++ (lw_privs_3))
def lw_tbl : List Cond := k2_sels lw_privs ++ tables_1
theorem lw_privs_ok : ∀ q ∈ lw_privs, lw_okq q := by
  show ∀ q ∈ lw_privs_1 ++ (lw_privs_2 ++ (lw_privs_3)), lw_okq q
  exact List.forall_mem_append.mpr ⟨lw_r1, List.forall_mem_append.mpr ⟨lw_r2, lw_r3⟩⟩
/-- the streams that the claim lets the run draw from -/
abbrev lw_cs : List Choice := [Jvm.Choice.named "NaN.bits"]
theorem lw_bits : nanBits ∈ lw_cs := by first | decide | exact List.mem_cons_self | simp [lw_cs, nanBits]
end
section
/-! ===== BEGIN words of one list among another's, by their places ===== -/
theorem goodIn_r {big : List Cond} (ws : List Cond) (ps : List Nat) (hp : ws = ps.filterMap (fun i => big[i]?)) (h : ws.all goodWord = true) : GoodIn big ws := by
  intro w hw
  have h1 := List.all_eq_true.mp h w hw
  rw [hp] at hw
  obtain ⟨i, -, hi⟩ := List.mem_filterMap.mp hw
  have hm : w ∈ big := by first | exact List.mem_of_getElem? hi | exact List.getElem?_mem hi
  exact ⟨hm, good_of_word h1⟩
theorem goodIn_app {big a b : List Cond} (ha : GoodIn big a) (hb : GoodIn big b) : GoodIn big (a ++ b) := fun w h => (List.mem_append.mp h).elim (ha w) (hb w)
theorem goodIn_ca {big a b : List Cond} {c : Cond} (ha : GoodIn big (c :: a)) (hb : GoodIn big b) : GoodIn big (c :: (a ++ b)) := fun w h => (List.mem_cons.mp h).elim (fun e => ha w (List.mem_cons.mpr (Or.inl e))) (fun h => (List.mem_append.mp h).elim (fun h => ha w (List.mem_cons.mpr (Or.inr h))) (hb w))
theorem goodIn_sub {big ws : List Cond} (hm : ∀ w ∈ ws, w ∈ big) (h : ws.all goodWord = true) : GoodIn big ws := fun w hw => ⟨hm w hw, good_of_word (List.all_eq_true.mp h w hw)⟩
/-! ===== END ===== -/

/-! ===== BEGIN exceptions that leave a method, and their catching by the caller (launches without stack traces) ===== -/
section VXA
/-! The laws vx_back, vx_callV, vx_callS, vx_callSW, vx_throw0, vx_throwS follow proofs of the library, with one case more: JvmDerived/Free/Laws.lean (Back.of_free), Shelf42/LK1.lean (callV, callS), Shelf/KitTraced.lean (throwNew0V, throwNewS). -/
/-- where a method has thrown q: the class by its name, the cell, what was written, the world -/
def vx_T (XC : String → State → State → Prop) (st : State) (q : Addr) (t : State) (mc ms : Nat) (free : Addr → Prop) : Prop :=
  ∃ (E : String) (ce : Cell) (L : List Loc), XC E st t ∧ t.heap[q]? = some ce ∧ ce.vm = .none ∧ st.vm.findClass E = some ce.cls ∧ st.WarmedH t.vm ∧ st.sameButNew ({ t with vm := st.vm } : State) L mc ms ∧ ∀ z ∈ L, free z.base
def vx_Q (Qc : Array Value → State → Outcome → State → Prop) (XC : String → State → State → Prop) (mc ms : Nat) (free : Addr → Prop) : Array Value → State → Outcome → State → Prop := fun a st o t =>
  (Qc a st o t ∧ ∃ L, FrameEnd st o t L mc ms ∧ ∀ q ∈ L, free q.base) ∨ ∃ q, o = .threw q ∧ vx_T XC st q t mc ms free
/-- a callee that returns or throws -/
def vx_Met (l : Launch) (y : MethodName) (ws : List Cond) (rm : Room) (Pc : Array Value → State → Prop) (Qc : Array Value → State → Outcome → State → Prop) (XC : String → State → State → Prop) (mc ms : Nat) (free : Addr → Prop) : Prop :=
  MetFree l y (headSpec ws rm) Pc (fun _ _ _ _ _ => True) (vx_Q Qc XC mc ms free)
def vx_Post (XC : String → State → State → Prop) (mc ms : Nat) (free : Addr → Prop) : Pt → Array Value → Addr → Pt → Prop := fun A a q B =>
  ∃ (g : JFrame) (mk : MethodId) (t : State) (L : List Loc) (E : String) (ce : Cell), B.U.heap = t.heap ∧ B.U.vm = t.vm ∧ XC E (A.U.calling g mk a) t ∧ t.heap[q]? = some ce ∧ ce.vm = .none ∧ A.U.vm.findClass E = some ce.cls ∧ B.locs = A.locs ++ L ∧ (∀ z ∈ L, free z.base) ∧ B.cells = A.cells + mc ∧ B.slots = A.slots + ms
def vx_Back (l : Launch) (R : Room) (p : Program) (e : Env) (below : List Frame) (s : State) (sargs : Array Value) (y : MethodName) (len W9 : Nat)
    (Pre : Pt → Array Value → Prop) (Post : Pt → Array Value → Option Value → Pt → Prop) (PostX : Pt → Array Value → Addr → Pt → Prop) : Prop :=
  ∀ (m : MethodId) (meth : Method) (c : Code) (A : Pt) (g : JFrame) (ig : Instr) (mk : MethodId) (a : Array Value),
    Stand p l e R s m sargs below meth c A.U A.locs A.cells A.slots → g.method = m → g.locals.size = c.maxLocals → decode c.code g.pc = .ok (ig, len) →
    2 * g.monitorRoom + (g.stack.map fun v => v.category).sum ≤ W9 → A.U.methodNamed? y = some mk → Pre A a →
    (∃ (v : Option Value) (B : Pt), Stand p l e R s m sargs below meth c B.U B.locs B.cells B.slots ∧ Post A a v B ∧
      Steps p.tables e below (doInvoke e (A.U.setTop g) [] mk a).1 (B.U.setTop { g with pc := g.pc + len, stack := v.toList ++ g.stack })) ∨
    (∃ (q : Addr) (B : Pt), Stand p l e R s m sargs below meth c B.U B.locs B.cells B.slots ∧ PostX A a q B ∧
      Steps p.tables e below (doInvoke e (A.U.setTop g) [] mk a).1 ((B.U.setTop g).pushFrame (.throwing q)))
section Payer
variable {l : Launch} {R : Room} {p : Program} {e : Env} {below : List Frame} {s : State} {sargs : Array Value} {y : MethodName} {len W9 : Nat}
theorem vx_back {ws : List Cond} {rm : Room} {Pc : Array Value → State → Prop} {Qc : Array Value → State → Outcome → State → Prop} {XC : String → State → State → Prop} {mc ms : Nat} {free : Addr → Prop} {bytes : ByteArray} {maxL : Nat} {ret : Option FieldType}
    (hM : vx_Met l y ws rm Pc Qc XC mc ms free) (hblind : FrameBlind Pc) (hrc : rm.cells = mc) (hrs : rm.slots = ms)
    (hframes : rm.frames + 1 ≤ R.frames) (hlocals : W9 + (maxL + 11) + rm.locals ≤ R.locals)
    (hws : ∀ w ∈ ws, ∀ a' U, s.WarmedH U.vm → w.before a' U = true) (hcode : Cond.code y bytes maxL ret ∈ ws) (hinit : ∀ a' U, s.WarmedH U.vm → (Cond.initialized y.cls).before a' U = true) :
    vx_Back l R p e below s sargs y len W9 (PreOf R mc ms Pc) (PostOf Qc mc ms free) (vx_Post XC mc ms free) := by
  intro m meth c A g ig mk a X hg hsize hdg hW hn hp
  have h1 : (headSpec ws rm).pre.before a A.U = true := atoms_intro fun w hw => hws w hw _ _ X.warmed
  have h2 : (Cond.code y bytes maxL ret).before a A.U = true := hws _ hcode _ _ X.warmed
  have h3 : (Cond.initialized y.cls).before a A.U = true := hinit _ _ X.warmed
  have h4 : A.cells + (headSpec ws rm).room.cells ≤ R.cells := by rw [show (headSpec ws rm).room.cells = mc from hrc]; exact hp.1
  have h5 : A.slots + (headSpec ws rm).room.slots ≤ R.slots := by rw [show (headSpec ws rm).room.slots = ms from hrs]; exact hp.2.1
  have hPc : Pc a (A.U.calling g mk a) := hblind _ _ _ _ hp.2.2
  obtain ⟨U, Ls, c0, s0⟩ := A
  dsimp only [Pt.U, Pt.locs, Pt.cells, Pt.slots] at h1 h2 h3 h4 h5 X hn hPc ⊢
  obtain ⟨methY, cY, hmY, hcY, -, hlY, -, -, -, -⟩ := Cond.code_spec hn h2
  obtain ⟨kY, hkY, -⟩ := className_of_methodNamed hn
  have hinitY : kY.init = .initialized := Cond.initialized_spec (findClass_of_methodNamed hn) hkY h3
  have h : At U g.method c below := by rw [hg]; exact X.here
  have hlocals9 : W9 + (maxL + 11) + (headSpec ws rm).room.locals ≤ R.locals := hlocals
  have happ : (headSpec ws rm).appliesLoose y e.platform (U.calling g mk a) = true :=
    Spec.appliesLoose_calling (g := g) h hdg hn hkY hinitY
      (X.room_calling (g := g) (R' := (headSpec ws rm).room) hsize hmY hcY hframes (by rw [hlY]; omega) h4 h5) h1
  obtain ⟨mid, hmid⟩ := h.above
  have hfr : (U.setTop g).frames = (.java g :: mid) ++ below := by rw [State.frames_setTop' g h.top, hmid]; rfl
  obtain ⟨o, s₂, hsteps, -, hend, hq⟩ := Steps.callFree hM p X.admits X.cas X.clock (acts := []) hfr happ hPc trivial
  have hq' : vx_Q Qc XC mc ms free a (U.calling g mk a) o s₂ := hq
  rw [State.frames_setTop' g h.top] at hend
  obtain ⟨g₀, hg0⟩ := Option.isSome_iff_exists.mp h.top
  obtain ⟨r, hr⟩ := State.topJava?_eq_some.mp hg0
  have hr' : (({ U with heap := s₂.heap, slotsUsed := s₂.slotsUsed } : State).setVm s₂.vm).frames = .java g₀ :: r := hr
  rcases hq' with ⟨hqc, L, hfe, hL⟩ | ⟨q, rfl, E, ce, L, hx, hce, hcv, hcl, hW₂, hsm, hL⟩
  · obtain ⟨⟨v, rfl⟩, hW₂, e2, q2, q3, q4, q5, q6⟩ := id hfe
    have e3 : s₂ = ({ (U.calling g mk a).setFrames s₂.frames with heap := s₂.heap, slotsUsed := s₂.slotsUsed } : State).setVm s₂.vm := by
      have : s₂ = ({ s₂ with vm := (U.calling g mk a).vm } : State).setVm s₂.vm := rfl
      rw [e2] at this
      exact this
    obtain ⟨c₂, i₂, len₂, hc₂, hd₂, hf₂⟩ := hend
    have hW' : U.WarmedH s₂.vm := hW₂
    have hcc : c₂ = c := by
      have h1 : s₂.code? g.method = U.code? g.method := by
        rw [State.code?_eq, State.code?_eq, hW'.alike.method?]
      exact Option.some.inj (hc₂.symm.trans (h1.trans h.code))
    subst hcc
    have hlen : len₂ = len := by rw [hdg] at hd₂; cases hd₂; rfl
    subst hlen
    have hs₂ : s₂ = (({ U with heap := s₂.heap, slotsUsed := s₂.slotsUsed } : State).setVm s₂.vm).setTop { g with pc := g.pc + len₂, stack := v.toList ++ g.stack } := by
      refine e3.trans ?_
      rw [hf₂, State.calling_eq h.top, State.setFrames_setFrames, State.setTop_of_frames _ hr', hr]
      rfl
    have hsame : U.sameButNew ({ U with heap := s₂.heap, slotsUsed := s₂.slotsUsed } : State) L mc ms := by
      refine ⟨?_, q2, q3, q4, q5, q6⟩
      obtain ⟨t, ht, -⟩ := State.frames_cons hr
      show ({ U with heap := s₂.heap, slotsUsed := s₂.slotsUsed } : State) = { U.setFrames U.frames with heap := s₂.heap, slotsUsed := s₂.slotsUsed }
      rw [State.setFrames_self ht]
    subst hg
    refine Or.inl ⟨v, ⟨(({ U with heap := s₂.heap, slotsUsed := s₂.slotsUsed } : State).setVm s₂.vm), Ls ++ L, c0 + mc, s0 + ms⟩,
      ⟨X.admits, X.cas, X.clock, X.frames, X.room, X.hears, X.method, X.code, (X.here.setHeapUsed s₂.heap s₂.slotsUsed).setVm hW'.alike, X.tail, State.WarmedH.trans X.warmed hW', X.limits, X.bytes, X.same.trans (hsame.setVm s.vm)⟩,
      ⟨g, mk, s₂, L, rfl, rfl, hqc, rfl, hL, rfl, rfl⟩, ?_⟩
    show Steps p.tables e below _ ((({ U with heap := s₂.heap, slotsUsed := s₂.slotsUsed } : State).setVm s₂.vm).setTop { g with pc := g.pc + len₂, stack := v.toList ++ g.stack })
    rw [← hs₂]
    exact hsteps
  · obtain ⟨e2, q2, q3, q4, q5, q6⟩ := id hsm
    have e3 : s₂ = ({ (U.calling g mk a).setFrames s₂.frames with heap := s₂.heap, slotsUsed := s₂.slotsUsed } : State).setVm s₂.vm := by
      have : s₂ = ({ s₂ with vm := (U.calling g mk a).vm } : State).setVm s₂.vm := rfl
      rw [e2] at this
      exact this
    have hf₂ : s₂.frames = .throwing q :: .java g :: U.frames.tail := hend
    have hW' : U.WarmedH s₂.vm := hW₂
    have hs₂ : s₂ = ((({ U with heap := s₂.heap, slotsUsed := s₂.slotsUsed } : State).setVm s₂.vm).setTop g).pushFrame (.throwing q) := by
      refine e3.trans ?_
      rw [hf₂, State.calling_eq h.top, State.setFrames_setFrames, State.pushFrame, State.frames_setTop _ hr', State.setTop_of_frames _ hr', State.setFrames_setFrames, hr]
      rfl
    have hsame : U.sameButNew ({ U with heap := s₂.heap, slotsUsed := s₂.slotsUsed } : State) L mc ms := by
      refine ⟨?_, q2, q3, q4, q5, q6⟩
      obtain ⟨t, ht, -⟩ := State.frames_cons hr
      show ({ U with heap := s₂.heap, slotsUsed := s₂.slotsUsed } : State) = { U.setFrames U.frames with heap := s₂.heap, slotsUsed := s₂.slotsUsed }
      rw [State.setFrames_self ht]
    subst hg
    refine Or.inr ⟨q, ⟨(({ U with heap := s₂.heap, slotsUsed := s₂.slotsUsed } : State).setVm s₂.vm), Ls ++ L, c0 + mc, s0 + ms⟩,
      ⟨X.admits, X.cas, X.clock, X.frames, X.room, X.hears, X.method, X.code, (X.here.setHeapUsed s₂.heap s₂.slotsUsed).setVm hW'.alike, X.tail, State.WarmedH.trans X.warmed hW', X.limits, X.bytes, X.same.trans (hsame.setVm s.vm)⟩,
      ⟨g, mk, s₂, L, E, ce, rfl, rfl, hx, hce, hcv, hcl, rfl, hL, rfl, rfl⟩, ?_⟩
    show Steps p.tables e below _ (((({ U with heap := s₂.heap, slotsUsed := s₂.slotsUsed } : State).setVm s₂.vm).setTop g).pushFrame (.throwing q))
    rw [← hs₂]
    exact hsteps
end Payer
section Calls
variable {p : Program} {l : Launch} {e : Env} {R : Room} {s : State} {m : MethodId} {args : Array Value} {below : List Frame} {meth : Method} {c : Code} {T : State} {locs : List Loc} {cells slots : Nat}
theorem vx_callV (X : Stand p l e R s m args below meth c T locs cells slots) (hexec : p.tables.exec = Jvm.exec) {own C : String} {index : Nat} {y : MethodName} {bytes : ByteArray} {maxL : Nat} {ret : Option FieldType}
    (hown : s.vm.findClass own = some m.cls) (hlink : (Cond.methodLink own index y).before args s = true) (hinst : (Cond.instanceMethod y).before args s = true) (hsel : (Cond.selects C y y).before args s = true)
    (hcode : (Cond.code y bytes maxL ret).before args s = true) (hy : y.cls ≠ "java/lang/invoke/MethodHandle" ∧ y.cls ≠ "java/lang/invoke/VarHandle")
    {W9 : Nat} {Pre : Pt → Array Value → Prop} {Post : Pt → Array Value → Option Value → Pt → Prop} {PostX : Pt → Array Value → Addr → Pt → Prop} (hK : vx_Back l R p e below s args y 3 W9 Pre Post PostX)
    {b : Addr} {cellB : Cell} (hcell : T.heap[b]? = some cellB) (hobj : cellB.vm.isStatics = false) (hcls : s.vm.findClass C = some cellB.cls)
    {g : JFrame} (hg : g.method = m) (hsize : g.locals.size = c.maxLocals) {argsL rest : List Value} (hlen : ∀ sig, parseMethodDescriptor y.desc = some sig → argsL.length = sig.parameters.length)
    (hstack : g.stack = argsL.reverse ++ .ref b :: rest) (hW : 2 * g.monitorRoom + (rest.map fun v => v.category).sum ≤ W9) (hdg : decode c.code g.pc = .ok (.invokevirtual index, 3))
    (hpre : ∀ vm₁, s.WarmedH vm₁ → Pre ⟨T.setVm vm₁, locs, cells, slots⟩ (Value.ref b :: argsL).toArray) :
    (∃ (v : Option Value) (vm₁ : Vm) (B : Pt), s.WarmedH vm₁ ∧ Stand p l e R s m args below meth c B.U B.locs B.cells B.slots ∧ Post ⟨T.setVm vm₁, locs, cells, slots⟩ (Value.ref b :: argsL).toArray v B ∧
      ∀ target, Steps p.tables e below (B.U.setTop { g with pc := g.pc + 3, stack := v.toList ++ rest }) target → Steps p.tables e below (T.setTop g) target) ∨
    (∃ (q : Addr) (vm₁ : Vm) (B : Pt), s.WarmedH vm₁ ∧ Stand p l e R s m args below meth c B.U B.locs B.cells B.slots ∧ PostX ⟨T.setVm vm₁, locs, cells, slots⟩ (Value.ref b :: argsL).toArray q B ∧
      Steps p.tables e below (T.setTop g) ((B.U.setTop { g with stack := rest }).pushFrame (.throwing q))) := by
  obtain ⟨mk, methM, hnamed, hmethM, hstM, habM⟩ := Cond.instanceMethod_spec hinst
  obtain ⟨methM', cM, hmethM', -, -, -, -, -, -, hsigM⟩ := Cond.code_spec hnamed hcode
  cases hmethM.symm.trans hmethM'
  obtain ⟨c2, r2, m2, q1, q2, q3, q4, kP, hkP, hkPi⟩ := Cond.selects_spec hsel
  cases hcls.symm.trans q1
  cases (State.methodFound?_of_named hnamed hy).symm.trans q2
  cases hnamed.symm.trans q3
  have hselP : selectMethod e.platform s.vm cellB.cls mk = .method mk := by rw [Launch.admits_selectMethod X.admits]; exact q4
  obtain ⟨vm₁, X₁, hstep₁⟩ := X.invokevirtual hexec hown hlink hnamed hmethM hstM hkP hkPi hy (a := b) (cell := cellB) hcell
    (fun z h => by rw [h] at hobj; cases hobj) hselP hmethM habM hkP hkPi (g := g) hg (argsL := argsL) (rest := rest) (hlen _ hsigM) hstack hdg
  rcases hK m meth c ⟨T.setVm vm₁, locs, cells, slots⟩ { g with stack := rest } (.invokevirtual index) mk (Value.ref b :: argsL).toArray X₁ hg hsize hdg hW (X₁.named hnamed) (hpre vm₁ X₁.warmed) with ⟨v, B, X', hpost, hsteps⟩ | ⟨q, B, X', hpost, hsteps⟩
  · exact Or.inl ⟨v, vm₁, B, X₁.warmed, X', hpost, fun target h => hstep₁ _ fun acts => by rw [doInvoke_state]; exact hsteps.trans h⟩
  · exact Or.inr ⟨q, vm₁, B, X₁.warmed, X', hpost, hstep₁ _ fun acts => by rw [doInvoke_state]; exact hsteps⟩
theorem vx_callS (X : Stand p l e R s m args below meth c T locs cells slots) (hexec : p.tables.exec = Jvm.exec) {own : String} {index : Nat} {y : MethodName} {bytes : ByteArray} {maxL : Nat} {ret : Option FieldType}
    (hown : s.vm.findClass own = some m.cls) (hlink : (Cond.methodLink own index y).before args s = true) (hstat : (Cond.static y).before args s = true) (hinit : (Cond.initialized y.cls).before args s = true)
    (hcode : (Cond.code y bytes maxL ret).before args s = true) (hy : y.cls ≠ "java/lang/invoke/MethodHandle" ∧ y.cls ≠ "java/lang/invoke/VarHandle")
    {W9 : Nat} {Pre : Pt → Array Value → Prop} {Post : Pt → Array Value → Option Value → Pt → Prop} {PostX : Pt → Array Value → Addr → Pt → Prop} (hK : vx_Back l R p e below s args y 3 W9 Pre Post PostX)
    {g : JFrame} (hg : g.method = m) (hsize : g.locals.size = c.maxLocals) {argsL rest : List Value} (hlen : ∀ sig, parseMethodDescriptor y.desc = some sig → argsL.length = sig.parameters.length)
    (hstack : g.stack = argsL.reverse ++ rest) (hW : 2 * g.monitorRoom + (rest.map fun v => v.category).sum ≤ W9) (hdg : decode c.code g.pc = .ok (.invokestatic index, 3))
    (hpre : ∀ vm₁, s.WarmedH vm₁ → Pre ⟨T.setVm vm₁, locs, cells, slots⟩ argsL.toArray) :
    (∃ (v : Option Value) (vm₁ : Vm) (B : Pt), s.WarmedH vm₁ ∧ Stand p l e R s m args below meth c B.U B.locs B.cells B.slots ∧ Post ⟨T.setVm vm₁, locs, cells, slots⟩ argsL.toArray v B ∧
      ∀ target, Steps p.tables e below (B.U.setTop { g with pc := g.pc + 3, stack := v.toList ++ rest }) target → Steps p.tables e below (T.setTop g) target) ∨
    (∃ (q : Addr) (vm₁ : Vm) (B : Pt), s.WarmedH vm₁ ∧ Stand p l e R s m args below meth c B.U B.locs B.cells B.slots ∧ PostX ⟨T.setVm vm₁, locs, cells, slots⟩ argsL.toArray q B ∧
      Steps p.tables e below (T.setTop g) ((B.U.setTop { g with stack := rest }).pushFrame (.throwing q))) := by
  obtain ⟨mk, hnamed⟩ := Cond.code_named hcode
  obtain ⟨methM, cM, hmethM, -, -, -, -, -, -, hsigM⟩ := Cond.code_spec hnamed hcode
  have hstatic : methM.isStatic = true := Cond.static_spec hnamed hmethM hstat
  obtain ⟨kP, hkP, -⟩ := className_of_methodNamed hnamed
  have hinitP : kP.init = .initialized := Cond.initialized_spec (findClass_of_methodNamed hnamed) hkP hinit
  obtain ⟨vm₁, X₁, hstep₁⟩ := X.invokestatic hexec hown hlink hnamed hmethM hstatic hkP hinitP hy (g := g) hg (argsL := argsL) (rest := rest) (hlen _ hsigM) hstack hdg
  rcases hK m meth c ⟨T.setVm vm₁, locs, cells, slots⟩ { g with stack := rest } (.invokestatic index) mk argsL.toArray X₁ hg hsize hdg hW (X₁.named hnamed) (hpre vm₁ X₁.warmed) with ⟨v, B, X', hpost, hsteps⟩ | ⟨q, B, X', hpost, hsteps⟩
  · exact Or.inl ⟨v, vm₁, B, X₁.warmed, X', hpost, fun target h => hstep₁ _ fun acts => by rw [doInvoke_state]; exact hsteps.trans h⟩
  · exact Or.inr ⟨q, vm₁, B, X₁.warmed, X', hpost, hstep₁ _ fun acts => by rw [doInvoke_state]; exact hsteps⟩
end Calls
theorem vx_cls {s : State} {T : State} {vm₁ : Vm} {E : String} {k : ClassId} (hW : s.WarmedH vm₁) (h : (T.setVm vm₁).vm.findClass E = some k) : s.vm.findClass E = some k := by
  have h1 : vm₁.findClass E = some k := h
  rw [hW.alike.findClass] at h1
  exact h1
/-- the method's frame g, with q thrown over it -/
def vx_W (p : Program) (l : Launch) (e : Env) (R : Room) (s : State) (m : MethodId) (args : Array Value) (below : List Frame) (meth : Method) (c : Code) (H : Heap) (locs : List Loc) (cells slots : Nat) (Q : State → Prop) (g : JFrame) (q : Addr) : Prop :=
  ∀ T : State, T.heap = H → Stand p l e R s m args below meth c T locs cells slots → ∃ t, Steps p.tables e below ((T.setTop g).pushFrame (.throwing q)) t ∧ Q t
def vx_Run (p : Program) (l : Launch) (e : Env) (R : Room) (s : State) (m : MethodId) (args : Array Value) (below : List Frame) (meth : Method) (c : Code) (H : Heap) (locs : List Loc) (cells slots mc ms : Nat) (g : JFrame) (rest : List Value) (Qa : State → Outcome → State → Prop) (XC : String → State → State → Prop) (free : Addr → Prop) : Prop :=
  ∀ T : State, T.heap = H → Stand p l e R s m args below meth c T locs cells slots →
    (∃ (v : Option Value) (st₀ t T' : State) (L : List Loc), st₀.heap = H ∧ Stand p l e R s m args below meth c T' (locs ++ L) (cells + mc) (slots + ms) ∧ (∀ q ∈ L, free q.base) ∧ T'.heap = t.heap ∧ T'.vm = t.vm ∧ Qa st₀ (.returned v) t ∧
      Goes p e below T g T' { g with pc := g.pc + 3, stack := v.toList ++ rest }) ∨
    (∃ (q : Addr) (st₀ t T' : State) (L : List Loc) (E : String) (ce : Cell), st₀.heap = H ∧ Stand p l e R s m args below meth c T' (locs ++ L) (cells + mc) (slots + ms) ∧ (∀ z ∈ L, free z.base) ∧ T'.heap = t.heap ∧ T'.vm = t.vm ∧ XC E st₀ t ∧ t.heap[q]? = some ce ∧ ce.vm = .none ∧ s.vm.findClass E = some ce.cls ∧
      Steps p.tables e below (T.setTop g) ((T'.setTop { g with stack := rest }).pushFrame (.throwing q)))
def vx_X {S : Type} (px : S → Prop) (B : String → S → State → Prop) (A : Nat → Prop) : String → State → State → Prop := fun E st t => ∃ u : S, px u ∧ B E u t ∧ va_F A st t
section Runs
variable {p : Program} {l : Launch} {e : Env} {R : Room} {s : State} {m : MethodId} {args : Array Value} {below : List Frame} {meth : Method} {c : Code} {H : Heap} {locs : List Loc} {cells slots : Nat}
variable {y : MethodName} {bytes cc : ByteArray} {maxL nL mc ms n index : Nat} {ret : Option FieldType} {ws : List Cond} {rm : Room} {Pc : Array Value → State → Prop} {Qc : Array Value → State → Outcome → State → Prop} {XC : String → State → State → Prop} {free : Addr → Prop} {Ts : List Cond} {own C : String} {b : Addr} {As rest : List Value} {g : JFrame}
theorem vx_callBack (cb : CallB R s args own index y bytes maxL ret ws rm mc ms n) (hM : vx_Met l y ws rm Pc Qc XC mc ms free) (hbl : FrameBlind Pc) : vx_Back l R p e below s args y 3 8 (PreOf R mc ms Pc) (PostOf Qc mc ms free) (vx_Post XC mc ms free) := by
  obtain ⟨hrc, hrs, hfr, hlo, hws, hcw, -, hini, -⟩ := cb
  exact vx_back (bytes := bytes) (maxL := maxL) (ret := ret) hM hbl hrc hrs hfr hlo hws hcw (fun a' U hW => word_at hW (Or.inl (by first | rfl | simp [Cond.onTables, Cond.keeps, Cond.steady])) hini)
theorem vx_runV (S : CallFix p m c cc nL s args Ts own) (hM : vx_Met l y ws rm Pc Qc XC mc ms free) (cw : CallW R s args own C index y bytes maxL ret ws rm mc ms n) (hp : PreV s H C b Pc As)
    (hg : g.method = m) (hn : As.length = n) (hsize : g.locals.size = nL) (hstack : g.stack = As.reverse ++ .ref b :: rest) (hW : 2 * g.monitorRoom + (rest.map fun v => v.category).sum ≤ 8) (hdg : decode cc g.pc = .ok (.invokevirtual index, 3)) (hf : cells + mc ≤ R.cells ∧ slots + ms ≤ R.slots) :
    vx_Run p l e R s m args below meth c H locs cells slots mc ms g rest (Qc (Value.ref b :: As).toArray) XC free := by
  have hK : vx_Back l R p e below s args y 3 8 (PreOf R mc ms Pc) (PostOf Qc mc ms free) (vx_Post XC mc ms free) := vx_callBack cw.1 hM hp.1
  obtain ⟨⟨-, -, -, -, -, -, hcode, -, hy, hlen, hl⟩, hin, hse⟩ := cw
  obtain ⟨hx, hb, hml, ho, -⟩ := S
  obtain ⟨-, ⟨cellB, hcB, hoB, hclB⟩, hPc⟩ := hp
  intro T hT X
  rcases vx_callV X hx (C := C) (bytes := bytes) (maxL := maxL) (ret := ret) ho hl hin hse hcode hy hK (by rw [hT]; exact hcB) hoB hclB hg (hsize.trans hml.symm) (argsL := As) (rest := rest) (fun sig h => hn.trans (hlen sig h)) hstack hW (by rw [hb]; exact hdg)
    (fun vm₁ hW₁ => ⟨hf.1, hf.2, hPc (T.setVm vm₁) hT hW₁⟩) with ⟨v, vm₁, ⟨U', l2, c2, s2⟩, hW₁, X', ⟨g', mk, t, L, e1, e2, hq, h1, hL, h2, h3⟩, st⟩ | ⟨q, vm₁, ⟨U', l2, c2, s2⟩, hW₁, X', ⟨g', mk, t, L, E, ce, e1, e2, hq, hce, hcv, hcl, h1, hL, h2, h3⟩, st⟩
  · dsimp only [Pt.U, Pt.locs, Pt.cells, Pt.slots] at X' e1 e2 h1 h2 h3 st
    subst h1; subst h2; subst h3
    exact Or.inl ⟨v, (T.setVm vm₁).calling g' mk (Value.ref b :: As).toArray, t, U', L, hT, X', hL, e1, e2, hq, st⟩
  · dsimp only [Pt.U, Pt.locs, Pt.cells, Pt.slots] at X' e1 e2 h1 h2 h3 st hcl
    subst h1; subst h2; subst h3
    exact Or.inr ⟨q, (T.setVm vm₁).calling g' mk (Value.ref b :: As).toArray, t, U', L, E, ce, hT, X', hL, e1, e2, hq, hce, hcv, vx_cls hW₁ hcl, st⟩
theorem vx_runS (S : CallFix p m c cc nL s args Ts own) (hM : vx_Met l y ws rm Pc Qc XC mc ms free) (cw : CallB R s args own index y bytes maxL ret ws rm mc ms n ∧ (Cond.static y).before args s = true) (hp : PreS s H Pc As)
    (hg : g.method = m) (hn : As.length = n) (hsize : g.locals.size = nL) (hstack : g.stack = As.reverse ++ rest) (hW : 2 * g.monitorRoom + (rest.map fun v => v.category).sum ≤ 8) (hdg : decode cc g.pc = .ok (.invokestatic index, 3)) (hf : cells + mc ≤ R.cells ∧ slots + ms ≤ R.slots) :
    vx_Run p l e R s m args below meth c H locs cells slots mc ms g rest (Qc As.toArray) XC free := by
  have hK : vx_Back l R p e below s args y 3 8 (PreOf R mc ms Pc) (PostOf Qc mc ms free) (vx_Post XC mc ms free) := vx_callBack cw.1 hM hp.1
  obtain ⟨⟨-, -, -, -, -, -, hcode, hini, hy, hlen, hl⟩, hstt⟩ := cw
  obtain ⟨hx, hb, hml, ho, -⟩ := S
  intro T hT X
  rcases vx_callS X hx (bytes := bytes) (maxL := maxL) (ret := ret) ho hl hstt hini hcode hy hK hg (hsize.trans hml.symm) (argsL := As) (rest := rest) (fun sig h => hn.trans (hlen sig h)) hstack hW (by rw [hb]; exact hdg)
    (fun vm₁ hW₁ => ⟨hf.1, hf.2, hp.2 (T.setVm vm₁) hT hW₁⟩) with ⟨v, vm₁, ⟨U', l2, c2, s2⟩, hW₁, X', ⟨g', mk, t, L, e1, e2, hq, h1, hL, h2, h3⟩, st⟩ | ⟨q, vm₁, ⟨U', l2, c2, s2⟩, hW₁, X', ⟨g', mk, t, L, E, ce, e1, e2, hq, hce, hcv, hcl, h1, hL, h2, h3⟩, st⟩
  · dsimp only [Pt.U, Pt.locs, Pt.cells, Pt.slots] at X' e1 e2 h1 h2 h3 st
    subst h1; subst h2; subst h3
    exact Or.inl ⟨v, (T.setVm vm₁).calling g' mk As.toArray, t, U', L, hT, X', hL, e1, e2, hq, st⟩
  · dsimp only [Pt.U, Pt.locs, Pt.cells, Pt.slots] at X' e1 e2 h1 h2 h3 st hcl
    subst h1; subst h2; subst h3
    exact Or.inr ⟨q, (T.setVm vm₁).calling g' mk As.toArray, t, U', L, E, ce, hT, X', hL, e1, e2, hq, hce, hcv, vx_cls hW₁ hcl, st⟩
end Runs
section Rows
variable {p : Program} {l : Launch} {e : Env} {R : Room} {s : State} {m : MethodId} {args : Array Value} {below : List Frame} {meth : Method} {c : Code} {H : Heap} {locs : List Loc} {cells slots : Nat} {Q : State → Prop}
variable {mc ms : Nat} {free : Addr → Prop} {A0 A1 : Nat → Prop} {H0 : Heap} {a : Array Value} {pc : Nat} {ls : Array Slot} {st0 rest : List Value}
theorem vx_keep {st₀ t T' : State} {L : List Loc} (h0 : st₀.heap = H) (e1 : T'.heap = t.heap) (hS : va_S A0 H0 H locs) (hA : ∀ q, q < H.size → A1 q → A0 q) (hf : ∀ q, free q → A0 q) (hL : ∀ q ∈ L, free q.base) (hF : va_F A1 st₀ t) :
    H.size ≤ T'.heap.size ∧ (∀ q : Nat, q < H.size → ¬ A1 q → T'.heap[q]? = H[q]?) ∧ va_S A0 H0 T'.heap (locs ++ L) := by
  obtain ⟨hz, hk⟩ := hF
  rw [h0] at hz hk
  exact ⟨by rw [e1]; exact hz, fun q h1 h2 => by rw [e1]; exact hk q h1 h2,
    ⟨Nat.le_trans hS.1 (by rw [e1]; exact hz), fun q h1 h2 => by rw [e1, hk q (Nat.lt_of_lt_of_le h1 hS.1) (fun z => h2 (hA q (Nat.lt_of_lt_of_le h1 hS.1) z))]; exact hS.2.1 q h1 h2, fun q hq => by
      rcases List.mem_append.mp hq with h | h
      · exact hS.2.2 q h
      · exact hf _ (hL q h)⟩⟩
theorem vx_calli {S SX : Type} {post : Int32 → S → Prop} {px : SX → Prop} {B : S → State → Prop} {BX : String → SX → State → Prop} {AX : Nat → Prop} (hr : vx_Run p l e R s m args below meth c H locs cells slots mc ms (F0 m pc ls st0) rest (va_Qi post B A1 a) (vx_X px BX AX) free) (hS : va_S A0 H0 H locs) (hA : ∀ q, q < H.size → A1 q → A0 q) (hf : ∀ q, free q → A0 q) (hAX : ∀ q, q < H.size → AX q → A0 q)
    (kx : ∀ (E : String) (ce : Cell) (q9 : Addr) (u : SX) (t : State) (H1 : Heap) (locs1 : List Loc), t.heap = H1 → s.vm.Alike t.vm → px u → BX E u t → H.size ≤ H1.size → (∀ q : Nat, q < H.size → ¬ AX q → H1[q]? = H[q]?) → va_S A0 H0 H1 locs1 → H1[q9]? = some ce → ce.vm = .none → s.vm.findClass E = some ce.cls → vx_W p l e R s m args below meth c H1 locs1 (cells + mc) (slots + ms) Q (F0 m pc ls rest) q9)
    (kk : ∀ (r : Int32) (u : S) (t : State) (H1 : Heap) (locs1 : List Loc), t.heap = H1 → s.vm.Alike t.vm → post r u → B u t → H.size ≤ H1.size → (∀ q : Nat, q < H.size → ¬ A1 q → H1[q]? = H[q]?) → va_S A0 H0 H1 locs1 → W p l e R s m args below meth c H1 locs1 (cells + mc) (slots + ms) Q (F0 m (pc + 3) ls (.int r :: rest))) : W p l e R s m args below meth c H locs cells slots Q (F0 m pc ls st0) := by
  intro T hT X
  rcases hr T hT X with ⟨v, st₀, t, T', L, h0, X', hL, e1, e2, ⟨⟨r, u, hv, hp, hb⟩, hF⟩, st⟩ | ⟨q, st₀, t, T', L, E, ce, h0, X', hL, e1, e2, ⟨u, hp, hb, hF⟩, hce, hcv, hcl, st⟩
  · cases hv
    obtain ⟨k1, k2, k3⟩ := vx_keep h0 e1 hS hA hf hL hF
    obtain ⟨t2, a1, b1⟩ := kk r u t T'.heap (locs ++ L) e1.symm (by rw [← e2]; exact X'.warmed.alike) hp hb k1 k2 k3 T' rfl X'
    exact ⟨t2, st t2 a1, b1⟩
  · obtain ⟨k1, k2, k3⟩ := vx_keep h0 e1 hS hAX hf hL hF
    obtain ⟨t2, a1, b1⟩ := kx E ce q u t T'.heap (locs ++ L) e1.symm (by rw [← e2]; exact X'.warmed.alike) hp hb k1 k2 k3 (by rw [e1]; exact hce) hcv hcl T' rfl X'
    exact ⟨t2, st.trans a1, b1⟩
theorem vx_calll {S SX : Type} {post : Int64 → S → Prop} {px : SX → Prop} {B : S → State → Prop} {BX : String → SX → State → Prop} {AX : Nat → Prop} (hr : vx_Run p l e R s m args below meth c H locs cells slots mc ms (F0 m pc ls st0) rest (va_Ql post B A1 a) (vx_X px BX AX) free) (hS : va_S A0 H0 H locs) (hA : ∀ q, q < H.size → A1 q → A0 q) (hf : ∀ q, free q → A0 q) (hAX : ∀ q, q < H.size → AX q → A0 q)
    (kx : ∀ (E : String) (ce : Cell) (q9 : Addr) (u : SX) (t : State) (H1 : Heap) (locs1 : List Loc), t.heap = H1 → s.vm.Alike t.vm → px u → BX E u t → H.size ≤ H1.size → (∀ q : Nat, q < H.size → ¬ AX q → H1[q]? = H[q]?) → va_S A0 H0 H1 locs1 → H1[q9]? = some ce → ce.vm = .none → s.vm.findClass E = some ce.cls → vx_W p l e R s m args below meth c H1 locs1 (cells + mc) (slots + ms) Q (F0 m pc ls rest) q9)
    (kk : ∀ (r : Int64) (u : S) (t : State) (H1 : Heap) (locs1 : List Loc), t.heap = H1 → s.vm.Alike t.vm → post r u → B u t → H.size ≤ H1.size → (∀ q : Nat, q < H.size → ¬ A1 q → H1[q]? = H[q]?) → va_S A0 H0 H1 locs1 → W p l e R s m args below meth c H1 locs1 (cells + mc) (slots + ms) Q (F0 m (pc + 3) ls (.long r :: rest))) : W p l e R s m args below meth c H locs cells slots Q (F0 m pc ls st0) := by
  intro T hT X
  rcases hr T hT X with ⟨v, st₀, t, T', L, h0, X', hL, e1, e2, ⟨⟨r, u, hv, hp, hb⟩, hF⟩, st⟩ | ⟨q, st₀, t, T', L, E, ce, h0, X', hL, e1, e2, ⟨u, hp, hb, hF⟩, hce, hcv, hcl, st⟩
  · cases hv
    obtain ⟨k1, k2, k3⟩ := vx_keep h0 e1 hS hA hf hL hF
    obtain ⟨t2, a1, b1⟩ := kk r u t T'.heap (locs ++ L) e1.symm (by rw [← e2]; exact X'.warmed.alike) hp hb k1 k2 k3 T' rfl X'
    exact ⟨t2, st t2 a1, b1⟩
  · obtain ⟨k1, k2, k3⟩ := vx_keep h0 e1 hS hAX hf hL hF
    obtain ⟨t2, a1, b1⟩ := kx E ce q u t T'.heap (locs ++ L) e1.symm (by rw [← e2]; exact X'.warmed.alike) hp hb k1 k2 k3 (by rw [e1]; exact hce) hcv hcl T' rfl X'
    exact ⟨t2, st.trans a1, b1⟩
theorem vx_callf {S SX : Type} {post : UInt32 → S → Prop} {px : SX → Prop} {B : S → State → Prop} {BX : String → SX → State → Prop} {AX : Nat → Prop} (hr : vx_Run p l e R s m args below meth c H locs cells slots mc ms (F0 m pc ls st0) rest (va_Qf post B A1 a) (vx_X px BX AX) free) (hS : va_S A0 H0 H locs) (hA : ∀ q, q < H.size → A1 q → A0 q) (hf : ∀ q, free q → A0 q) (hAX : ∀ q, q < H.size → AX q → A0 q)
    (kx : ∀ (E : String) (ce : Cell) (q9 : Addr) (u : SX) (t : State) (H1 : Heap) (locs1 : List Loc), t.heap = H1 → s.vm.Alike t.vm → px u → BX E u t → H.size ≤ H1.size → (∀ q : Nat, q < H.size → ¬ AX q → H1[q]? = H[q]?) → va_S A0 H0 H1 locs1 → H1[q9]? = some ce → ce.vm = .none → s.vm.findClass E = some ce.cls → vx_W p l e R s m args below meth c H1 locs1 (cells + mc) (slots + ms) Q (F0 m pc ls rest) q9)
    (kk : ∀ (r : UInt32) (u : S) (t : State) (H1 : Heap) (locs1 : List Loc), t.heap = H1 → s.vm.Alike t.vm → post r u → B u t → H.size ≤ H1.size → (∀ q : Nat, q < H.size → ¬ A1 q → H1[q]? = H[q]?) → va_S A0 H0 H1 locs1 → W p l e R s m args below meth c H1 locs1 (cells + mc) (slots + ms) Q (F0 m (pc + 3) ls (.float r :: rest))) : W p l e R s m args below meth c H locs cells slots Q (F0 m pc ls st0) := by
  intro T hT X
  rcases hr T hT X with ⟨v, st₀, t, T', L, h0, X', hL, e1, e2, ⟨⟨r, u, hv, hp, hb⟩, hF⟩, st⟩ | ⟨q, st₀, t, T', L, E, ce, h0, X', hL, e1, e2, ⟨u, hp, hb, hF⟩, hce, hcv, hcl, st⟩
  · cases hv
    obtain ⟨k1, k2, k3⟩ := vx_keep h0 e1 hS hA hf hL hF
    obtain ⟨t2, a1, b1⟩ := kk r u t T'.heap (locs ++ L) e1.symm (by rw [← e2]; exact X'.warmed.alike) hp hb k1 k2 k3 T' rfl X'
    exact ⟨t2, st t2 a1, b1⟩
  · obtain ⟨k1, k2, k3⟩ := vx_keep h0 e1 hS hAX hf hL hF
    obtain ⟨t2, a1, b1⟩ := kx E ce q u t T'.heap (locs ++ L) e1.symm (by rw [← e2]; exact X'.warmed.alike) hp hb k1 k2 k3 (by rw [e1]; exact hce) hcv hcl T' rfl X'
    exact ⟨t2, st.trans a1, b1⟩
theorem vx_calld {S SX : Type} {post : UInt64 → S → Prop} {px : SX → Prop} {B : S → State → Prop} {BX : String → SX → State → Prop} {AX : Nat → Prop} (hr : vx_Run p l e R s m args below meth c H locs cells slots mc ms (F0 m pc ls st0) rest (va_Qd post B A1 a) (vx_X px BX AX) free) (hS : va_S A0 H0 H locs) (hA : ∀ q, q < H.size → A1 q → A0 q) (hf : ∀ q, free q → A0 q) (hAX : ∀ q, q < H.size → AX q → A0 q)
    (kx : ∀ (E : String) (ce : Cell) (q9 : Addr) (u : SX) (t : State) (H1 : Heap) (locs1 : List Loc), t.heap = H1 → s.vm.Alike t.vm → px u → BX E u t → H.size ≤ H1.size → (∀ q : Nat, q < H.size → ¬ AX q → H1[q]? = H[q]?) → va_S A0 H0 H1 locs1 → H1[q9]? = some ce → ce.vm = .none → s.vm.findClass E = some ce.cls → vx_W p l e R s m args below meth c H1 locs1 (cells + mc) (slots + ms) Q (F0 m pc ls rest) q9)
    (kk : ∀ (r : UInt64) (u : S) (t : State) (H1 : Heap) (locs1 : List Loc), t.heap = H1 → s.vm.Alike t.vm → post r u → B u t → H.size ≤ H1.size → (∀ q : Nat, q < H.size → ¬ A1 q → H1[q]? = H[q]?) → va_S A0 H0 H1 locs1 → W p l e R s m args below meth c H1 locs1 (cells + mc) (slots + ms) Q (F0 m (pc + 3) ls (.double r :: rest))) : W p l e R s m args below meth c H locs cells slots Q (F0 m pc ls st0) := by
  intro T hT X
  rcases hr T hT X with ⟨v, st₀, t, T', L, h0, X', hL, e1, e2, ⟨⟨r, u, hv, hp, hb⟩, hF⟩, st⟩ | ⟨q, st₀, t, T', L, E, ce, h0, X', hL, e1, e2, ⟨u, hp, hb, hF⟩, hce, hcv, hcl, st⟩
  · cases hv
    obtain ⟨k1, k2, k3⟩ := vx_keep h0 e1 hS hA hf hL hF
    obtain ⟨t2, a1, b1⟩ := kk r u t T'.heap (locs ++ L) e1.symm (by rw [← e2]; exact X'.warmed.alike) hp hb k1 k2 k3 T' rfl X'
    exact ⟨t2, st t2 a1, b1⟩
  · obtain ⟨k1, k2, k3⟩ := vx_keep h0 e1 hS hAX hf hL hF
    obtain ⟨t2, a1, b1⟩ := kx E ce q u t T'.heap (locs ++ L) e1.symm (by rw [← e2]; exact X'.warmed.alike) hp hb k1 k2 k3 (by rw [e1]; exact hce) hcv hcl T' rfl X'
    exact ⟨t2, st.trans a1, b1⟩
theorem vx_callv {S SX : Type} {post : S → Prop} {px : SX → Prop} {B : S → State → Prop} {BX : String → SX → State → Prop} {AX : Nat → Prop} (hr : vx_Run p l e R s m args below meth c H locs cells slots mc ms (F0 m pc ls st0) rest (va_Qv post B A1 a) (vx_X px BX AX) free) (hS : va_S A0 H0 H locs) (hA : ∀ q, q < H.size → A1 q → A0 q) (hf : ∀ q, free q → A0 q) (hAX : ∀ q, q < H.size → AX q → A0 q)
    (kx : ∀ (E : String) (ce : Cell) (q9 : Addr) (u : SX) (t : State) (H1 : Heap) (locs1 : List Loc), t.heap = H1 → s.vm.Alike t.vm → px u → BX E u t → H.size ≤ H1.size → (∀ q : Nat, q < H.size → ¬ AX q → H1[q]? = H[q]?) → va_S A0 H0 H1 locs1 → H1[q9]? = some ce → ce.vm = .none → s.vm.findClass E = some ce.cls → vx_W p l e R s m args below meth c H1 locs1 (cells + mc) (slots + ms) Q (F0 m pc ls rest) q9)
    (kk : ∀ (u : S) (t : State) (H1 : Heap) (locs1 : List Loc), t.heap = H1 → s.vm.Alike t.vm → post u → B u t → H.size ≤ H1.size → (∀ q : Nat, q < H.size → ¬ A1 q → H1[q]? = H[q]?) → va_S A0 H0 H1 locs1 → W p l e R s m args below meth c H1 locs1 (cells + mc) (slots + ms) Q (F0 m (pc + 3) ls (rest))) : W p l e R s m args below meth c H locs cells slots Q (F0 m pc ls st0) := by
  intro T hT X
  rcases hr T hT X with ⟨v, st₀, t, T', L, h0, X', hL, e1, e2, ⟨⟨u, hv, hp, hb⟩, hF⟩, st⟩ | ⟨q, st₀, t, T', L, E, ce, h0, X', hL, e1, e2, ⟨u, hp, hb, hF⟩, hce, hcv, hcl, st⟩
  · cases hv
    obtain ⟨k1, k2, k3⟩ := vx_keep h0 e1 hS hA hf hL hF
    obtain ⟨t2, a1, b1⟩ := kk u t T'.heap (locs ++ L) e1.symm (by rw [← e2]; exact X'.warmed.alike) hp hb k1 k2 k3 T' rfl X'
    exact ⟨t2, st t2 a1, b1⟩
  · obtain ⟨k1, k2, k3⟩ := vx_keep h0 e1 hS hAX hf hL hF
    obtain ⟨t2, a1, b1⟩ := kx E ce q u t T'.heap (locs ++ L) e1.symm (by rw [← e2]; exact X'.warmed.alike) hp hb k1 k2 k3 (by rw [e1]; exact hce) hcv hcl T' rfl X'
    exact ⟨t2, st.trans a1, b1⟩
/-- caught by the row x of this method's table; the rows ahead don't take it -/
theorem vx_catch {own name : String} {E : String} {ce : Cell} {q : Addr} (hown : s.vm.findClass own = some m.cls) (pre : List ExceptionTableEntry) (x : ExceptionTableEntry) (suf : List ExceptionTableEntry) (hsplit : c.exceptionTable.toList = pre ++ x :: suf)
    (hpass : ∀ z ∈ pre, covers z pc = false ∨ (z.catchType ≠ 0 ∧ ∃ nm : String, (Cond.classLink own z.catchType nm).before args s = true ∧ va_Nc E nm s)) (hx : covers x pc = true) (h0 : x.catchType ≠ 0)
    (hlink : (Cond.classLink own x.catchType name).before args s = true) (hcast : (Cond.castable E name).before args s = true) (hcell : H[q]? = some ce) (hv : ce.vm = .none) (hcl : s.vm.findClass E = some ce.cls)
    (kk : W p l e R s m args below meth c H locs cells slots Q (F0 m x.handlerPc ls [.ref q])) : vx_W p l e R s m args below meth c H locs cells slots Q (F0 m pc ls rest) q := by
  intro T hT X
  have hpl : e.platform.magicAccessors = ({} : Platform).magicAccessors := by rw [X.admits.platform]
  obtain ⟨c3, c4, hc3, hc4, hasg⟩ := Cond.castable_spec hcast
  cases Option.some.inj (hc3.symm.trans hcl)
  obtain ⟨c5, hc5, hcl5⟩ := Cond.classLink_spec hown hlink e.platform hpl
  cases Option.some.inj (hc4.symm.trans hc5)
  obtain ⟨vm', X', st⟩ := X.thenCaughtThrough q (g := F0 m pc ls rest) rfl (Steps.refl _) (by rw [hT]; exact hcell) (by rw [hv]; rfl) (by obtain ⟨k9, h9, -⟩ := Vm.findClass_spec hcl; exact ⟨k9, h9⟩) pre x suf hsplit
    (fun z hz => by
      rcases hpass z hz with h | ⟨hz0, nm, hl1, hn1⟩
      · exact Or.inl h
      · obtain ⟨c6, hc6, hcl6⟩ := Cond.classLink_spec hown hl1 e.platform hpl
        obtain ⟨a8, b8, h1, h2, h3⟩ := hn1
        cases Option.some.inj (h1.symm.trans hcl)
        cases Option.some.inj (h2.symm.trans hc6)
        exact Or.inr ⟨hz0, _, hcl6, h3⟩) hx (Or.inr ⟨h0, c4, hcl5, hasg⟩)
  obtain ⟨t, a1, b1⟩ := kk (T.setVm vm') hT X'
  exact ⟨t, st.trans a1, b1⟩
end Rows
section Ends
variable {p : Program} {l : Launch} {e : Env} {R : Room} {s : State} {m : MethodId} {args : Array Value} {below : List Frame} {meth : Method} {c : Code} {H : Heap} {locs : List Loc} {cells slots : Nat} {Q : State → Prop}
variable {mc ms : Nat} {free : Addr → Prop} {A0 A1 : Nat → Prop} {H0 : Heap} {a : Array Value} {ls : Array Slot} {st0 rest : List Value}
variable {Qc : Array Value → State → Outcome → State → Prop} {XC : String → State → State → Prop}
/-- what a body that may throw owes at its end -/
def vx_MQ (below : List Frame) (Qc : Array Value → State → Outcome → State → Prop) (XC : String → State → State → Prop) (a : Array Value) (s : State) (mc ms : Nat) (free : Addr → Prop) : State → Prop := fun t =>
  ∃ o, t.status = .running ∧ Ended t below o ∧ vx_Q Qc XC mc ms free a s o t
theorem vx_ret {g : JFrame} {mc ms : Nat} (k : W p l e R s m args below meth c H locs cells slots (MQ below Qc args s mc ms free) g) : W p l e R s m args below meth c H locs cells slots (vx_MQ below Qc XC args s mc ms free) g := by
  intro T hT X
  obtain ⟨t, a1, o, b1, b2, b3, b4⟩ := k T hT X
  exact ⟨t, a1, o, b1, b2, Or.inl ⟨b3, b4⟩⟩
/-- not caught here: it goes on to the caller -/
theorem vx_widen {g : JFrame} {q : Addr} {k n : Nat} (h1 : cells ≤ k) (h2 : slots ≤ n) (kk : vx_W p l e R s m args below meth c H locs k n Q g q) : vx_W p l e R s m args below meth c H locs cells slots Q g q := fun T hT X => kk T hT (stand_widen X h1 h2)
theorem vx_out {pc : Nat} {E : String} {ce : Cell} {q : Addr} {mc ms : Nat} (hout : ∀ x ∈ c.exceptionTable.toList, covers x pc = false) (hlocks : meth.locks = false) (hcell : H[q]? = some ce) (hv : ce.vm = .none) (hcl : s.vm.findClass E = some ce.cls)
    (hx : ∀ t : State, t.heap = H → s.vm.Alike t.vm → XC E s t) (hf : ∀ z ∈ locs, free z.base) (hc : cells ≤ mc) (hs : slots ≤ ms) :
    vx_W p l e R s m args below meth c H locs cells slots (vx_MQ below Qc XC args s mc ms free) (F0 m pc ls rest) q := by
  intro T hT X
  obtain ⟨st1, hrun, hend, hW, hsm⟩ := X.leaveThrown q (g := F0 m pc ls rest) rfl rfl rfl hout hlocks
  have hcell9 : (T.setFrames (.throwing q :: below)).heap[q]? = some ce := by
    show T.heap[q]? = some ce
    rw [hT]; exact hcell
  exact ⟨_, st1, .threw q, hrun, hend, Or.inr ⟨q, rfl, E, ce, locs, hx _ hT hW.alike, hcell9, hv, hcl, hW, hsm.mono hc hs, hf⟩⟩
theorem vx_frame {U : State} {k n : Nat} (h : s.sameButNew ({ U with vm := s.vm } : State) locs k n) : s.heap.size ≤ U.heap.size ∧ ∀ q : Nat, q < s.heap.size → (∀ z ∈ locs, z.base ≠ q) → U.heap[q]? = s.heap[q]? := by
  obtain ⟨-, h2, -, -, -, h6⟩ := h
  refine ⟨h2, fun q hq hz => ?_⟩
  obtain ⟨c9, e1, e2, e3, e4⟩ := h6 q _ (Array.getElem?_eq_getElem hq)
  have hs : c9.slots = (s.heap[q]).slots := Array.ext_getElem? fun i => e4 i fun hm => hz _ hm rfl
  have h9 : c9 = s.heap[q] := by
    rw [hs] at e2
    exact e2
  have e5 : U.heap[q]? = some c9 := e1
  rw [e5, h9, Array.getElem?_eq_getElem hq]
/-- the words of a throw but the four that speak of the heap -/
def vx_no (w : Cond) : Bool := decide (w ≠ .isRef (.static Bundle.tN "UNASSIGNED_STACK" Bundle.steD)) && decide (w ≠ .isRef (.static Bundle.tN "SUPPRESSED_SENTINEL" Bundle.listD)) && decide (w ≠ .laysStatic Bundle.tN "UNASSIGNED_STACK" Bundle.steD) && decide (w ≠ .laysStatic Bundle.tN "SUPPRESSED_SENTINEL" Bundle.listD)
def vx_at0 (own : String) (ic : Nat) (X : String) (names : List String) : List Cond := (Bundle.ownAtoms0 own ic X names).filter vx_no
def vx_atS (own : String) (ic : Nat) (X : String) (names : List String) : List Cond := (Bundle.ownAtoms own ic X names).filter vx_no
/-- a word that the tables alone decide, or a good one -/
def vx_ot (w : Cond) : Bool := w.onTables || goodWord w
theorem vx_ot_at {args a' : Array Value} {s U : State} {w : Cond} (hW : s.WarmedH U.vm) (hvm : s.vm = U.vm) (hg : vx_ot w = true) (h : w.before args s = true) : w.before a' U = true := by
  simp only [vx_ot, Bool.or_eq_true] at hg
  rcases hg with hg | hg
  · exact va_tabs hg hvm h
  · exact word_at hW (good_of_word hg) h
/-- a list's words: the good ones out of the method's own list, the others by premises of their own -/
theorem vx_hat {args : Array Value} {s : State} {L B : List Cond} (h1 : ∀ w ∈ L.filter goodWord, w.before args s = true) (h2 : ∀ w ∈ L.filter (fun w => !goodWord w), w ∈ B) (h3 : ∀ w ∈ B, w.before args s = true) : ∀ w ∈ L, w.before args s = true := by
  intro w hw
  by_cases g : goodWord w = true
  · exact h1 w (List.mem_filter.mpr ⟨hw, g⟩)
  · refine h3 w (h2 w (List.mem_filter.mpr ⟨hw, ?_⟩))
    show (!goodWord w) = true
    cases hgw : goodWord w
    · rfl
    · exact absurd hgw g
theorem vx_c {args : Array Value} {s : State} {w : Cond} {B : List Cond} (h : w.before args s = true) (t : ∀ w ∈ B, w.before args s = true) : ∀ w' ∈ w :: B, w'.before args s = true := fun w' h' => (List.mem_cons.mp h').elim (fun e => by rw [e]; exact h) (t w')
theorem vx_n {args : Array Value} {s : State} : ∀ w ∈ ([] : List Cond), w.before args s = true := fun _ h => nomatch h
theorem vx_own {args : Array Value} {s : State} {L : List Cond} (h1 : ∀ w ∈ L.filter vx_no, w.before args s = true)
    (hU : (Cond.isRef (.static Bundle.tN "UNASSIGNED_STACK" Bundle.steD)).before args s = true) (hN : (Cond.isRef (.static Bundle.tN "SUPPRESSED_SENTINEL" Bundle.listD)).before args s = true)
    (lU : (Cond.laysStatic Bundle.tN "UNASSIGNED_STACK" Bundle.steD).before args s = true) (lN : (Cond.laysStatic Bundle.tN "SUPPRESSED_SENTINEL" Bundle.listD).before args s = true) : ∀ w ∈ L, w.before args s = true := by
  intro w hw
  by_cases e1 : w = .isRef (.static Bundle.tN "UNASSIGNED_STACK" Bundle.steD)
  · rw [e1]; exact hU
  · by_cases e2 : w = .isRef (.static Bundle.tN "SUPPRESSED_SENTINEL" Bundle.listD)
    · rw [e2]; exact hN
    · by_cases e3 : w = .laysStatic Bundle.tN "UNASSIGNED_STACK" Bundle.steD
      · rw [e3]; exact lU
      · by_cases e4 : w = .laysStatic Bundle.tN "SUPPRESSED_SENTINEL" Bundle.listD
        · rw [e4]; exact lN
        · exact h1 w (List.mem_filter.mpr ⟨hw, by unfold vx_no; rw [decide_eq_true e1, decide_eq_true e2, decide_eq_true e3, decide_eq_true e4]; rfl⟩)
/-- where a static field lies, its class's statics cell in H -/
def vx_L (C n d : String) (A : Nat → Prop) (U : State) (H : Heap) : Prop := ∃ (c : ClassId) (k : Class) (i : Nat) (f : Field) (a : Nat) (cell : Cell), U.vm.findClass C = some c ∧ U.fieldFound? C n d = some (c, k, i, f) ∧ f.isStatic = true ∧ k.statics = some a ∧ H[a]? = some cell ∧ cell.vm.isStatics = true ∧ cell.cls = c ∧ f.slot < cell.slots.size ∧ k.staticTypes[f.slot]? = some f.type ∧ ¬ A a
theorem vx_L.moved {C n d : String} {A : Nat → Prop} {u U : State} {H : Heap} (hvm : u.vm.Alike U.vm) (h : vx_L C n d A u H) : vx_L C n d A U H := by
  obtain ⟨c, k, i, f, a, cell, h1, h2, h3, h4, h5, h6, h7, h8, h9, h10⟩ := h
  obtain ⟨k', hi', he⟩ := State.fieldFound?_setVm hvm h2
  exact ⟨c, k', i, f, a, cell, by rw [hvm.findClass]; exact h1, hi', h3, by rw [he]; exact h4, h5, h6, h7, h8, by rw [he]; exact h9, h10⟩
theorem vx_L.kept {C n d : String} {A : Nat → Prop} {U : State} {H H1 : Heap} (h : vx_L C n d A U H) (hq : ∀ a : Nat, a < H.size → ¬ A a → H1[a]? = H[a]?) : vx_L C n d A U H1 := by
  obtain ⟨c, k, i, f, a, cell, h1, h2, h3, h4, h5, h6, h7, h8, h9, h10⟩ := h
  exact ⟨c, k, i, f, a, cell, h1, h2, h3, h4, by rw [hq a (Array.getElem?_eq_some_iff.mp h5).1 h10]; exact h5, h6, h7, h8, h9, h10⟩
theorem vx_L.narrow {C n d : String} {A B : Nat → Prop} {U : State} {H : Heap} (h : vx_L C n d A U H) (hAB : ∀ q, B q → A q) : vx_L C n d B U H := by
  obtain ⟨c, k, i, f, a, cell, h1, h2, h3, h4, h5, h6, h7, h8, h9, h10⟩ := h
  exact ⟨c, k, i, f, a, cell, h1, h2, h3, h4, h5, h6, h7, h8, h9, fun z => h10 (hAB _ z)⟩
theorem vx_L.word {C n d : String} {A : Nat → Prop} {s : State} {args : Array Value} (h : vx_L C n d A s s.heap) : (Cond.laysStatic C n d).before args s = true := by
  obtain ⟨c, k, i, f, a, cell, h1, h2, h3, h4, h5, h6, h7, h8, h9, -⟩ := h
  show (Cond.laysStatic C n d).holds args s none s [] = true
  exact Cond.laysStatic_of h1 h2 h3 h4 h5 h6 h7 h8 h9
/-- .. and what it holds: null or some reference -/
def vx_Zq (C n d : String) (A : Nat → Prop) (U : State) (H : Heap) : Prop := va_Zq C n d A U H ∧ vx_L C n d A U H
theorem vx_Zq.moved {C n d : String} {A : Nat → Prop} {u U : State} {H : Heap} (hvm : u.vm.Alike U.vm) (h : vx_Zq C n d A u H) : vx_Zq C n d A U H := ⟨va_Zq.moved hvm h.1, vx_L.moved hvm h.2⟩
theorem vx_Zq.kept {C n d : String} {A : Nat → Prop} {U : State} {H H1 : Heap} (h : vx_Zq C n d A U H) (hq : ∀ a : Nat, a < H.size → ¬ A a → H1[a]? = H[a]?) : vx_Zq C n d A U H1 := ⟨va_Zq.kept h.1 hq, vx_L.kept h.2 hq⟩
theorem vx_Zq.narrow {C n d : String} {A B : Nat → Prop} {U : State} {H : Heap} (h : vx_Zq C n d A U H) (hAB : ∀ q, B q → A q) : vx_Zq C n d B U H := ⟨va_Zq.narrow h.1 hAB, vx_L.narrow h.2 hAB⟩
theorem vx_Zqof {args : Array Value} {s : State} {C n d : String} {A : Nat → Prop} (hl : (Cond.laysStatic C n d).before args s = true) (hini : (Cond.initialized C).before args s = true) (h : (Cond.isRef (.static C n d)).before args s = true) (hA : ∀ a : Nat, a < s.heap.size → ¬ A a) : vx_Zq C n d A s s.heap := by
  refine ⟨va_Zqof hl hini h hA, ?_⟩
  obtain ⟨c, k, i, f, a, cell, h1, h2, h3, h4, h5, h6, h7, h8, h9⟩ := Cond.laysStatic_spec hl
  exact ⟨c, k, i, f, a, cell, h1, h2, h3, h4, h5, h6, h7, h8, h9, hA a (Array.getElem?_eq_some_iff.mp h5).1⟩
theorem vx_isRef {C n d : String} {v : Value} {A : Nat → Prop} {s : State} {args : Array Value} (h : va_Z C n d v A s s.heap) (hv : v.isRef = true) : (Cond.isRef (.static C n d)).before args s = true := by
  obtain ⟨cf, kf, fi, f, a, cell, h1, h2, h3, h4, h5, h6, h7, -⟩ := h
  have he : (Term.static C n d).eval args s none [] s = some v := by
    simp [Term.eval, State.fieldNamed?, h1, h2, h4, h5, h6, h7]
  simp only [Cond.before, Cond.holds, Cond.value, he]
  cases v <;> simp_all [Value.isRef]
theorem vx_isRefq {C n d : String} {A : Nat → Prop} {s : State} {args : Array Value} (h : va_Zq C n d A s s.heap) : (Cond.isRef (.static C n d)).before args s = true := by
  rcases h with h | ⟨t, h⟩
  · exact vx_isRef h rfl
  · exact vx_isRef h rfl
/-- the same frame, seen from here: as if the method were called anew in this heap -/
theorem vx_rebase {T : State} (X : Stand p l e R s m args below meth c T locs cells slots) {R' : Room} (hf : R'.frames ≤ R.frames) (hl : R'.locals ≤ R.locals) (hc : cells + R'.cells ≤ R.cells) (hs : slots + R'.slots ≤ R.slots) :
    Stand p l e R' ((T.setVm s.vm).setFrames (.invoking m args :: below)) m args below meth c T [] 0 0 := by
  have htop : (T.setVm s.vm).topJava?.isSome := X.here.top
  have hF : ((T.setVm s.vm).setFrames (.invoking m args :: below)).frames = .invoking m args :: below := State.frames_setFrames _ (State.cur_lt_of_top htop)
  obtain ⟨g₀, hg0⟩ := Option.isSome_iff_exists.mp htop
  obtain ⟨r, hr⟩ := State.topJava?_eq_some.mp hg0
  have hl9 : e.platform.stackLimits (T.setVm s.vm).me = e.platform.stackLimits s.me := X.limits
  have hb9 : (T.setVm s.vm).me.stackBytes = s.me.stackBytes := X.bytes
  refine ⟨X.admits, X.cas, X.clock, hF, ?_, X.hears, X.method, X.code, X.here, X.tail, X.warmed, ?_, ?_, ?_⟩
  · have h := X.room
    have hU : ((T.setVm s.vm).setFrames (.invoking m args :: below)).localsInUse = s.localsInUse := by
      rw [State.localsInUse_invoking hF (meth := meth) (c := c) X.method X.code, State.localsInUse_invoking X.frames X.method X.code]
    simp only [State.hasRoom, Bool.and_eq_true, decide_eq_true_eq] at h ⊢
    obtain ⟨⟨⟨⟨h1, h2, h3, h4, h5, h6⟩, h7⟩, h8⟩, h9⟩ := h
    rw [X.frames, List.length_cons] at h2 h3
    have q1 := X.heapSize
    have q2 := X.used
    simp only [hF, hU, List.length_cons, State.stackLimits_setFrames, State.stackBytes_setFrames, hl9, hb9]
    refine ⟨⟨⟨⟨by omega, by omega, by omega, by omega, by omega, h6⟩, ?_⟩, ?_⟩, X.book⟩
    · show T.heap.size + R'.cells ≤ e.platform.maxCells
      omega
    · show T.slotsUsed + R'.slots ≤ e.platform.maxSlots
      omega
  · rw [State.stackLimits_setFrames]; rfl
  · rw [State.stackBytes_setFrames]; rfl
  · refine ⟨?_, Nat.le_refl _, Nat.le_refl _, ?_, ?_, fun a c9 h9 => ⟨c9, h9, rfl, rfl, fun _ _ => rfl⟩⟩
    · obtain ⟨t, ht, -⟩ := State.frames_cons hr
      show T.setVm s.vm = { ((T.setVm s.vm).setFrames (.invoking m args :: below)).setFrames (T.setVm s.vm).frames with heap := T.heap, slotsUsed := T.slotsUsed }
      rw [State.setFrames_setFrames, State.setFrames_self ht]
      rfl
    · show T.slotsUsed = T.slotsUsed + ((T.heap.toList.drop T.heap.size).map (·.slots.size)).sum
      rw [List.drop_eq_nil_of_le (Nat.le_of_eq Array.length_toList)]
      rfl
    · show ((T.heap.toList.drop T.heap.size).map (·.slots.size)).sum ≤ 0
      rw [List.drop_eq_nil_of_le (Nat.le_of_eq Array.length_toList)]
      exact Nat.le_refl _
/-- 'throw new E()': new; dup; invokespecial; athrow -/
theorem vx_throw0 {cc : ByteArray} {pc : Nat} (hexec : p.tables.exec = Jvm.exec) (hb : c.code = cc) (hl : l.stackTraces = false) {own cls : String} {names : List String} {ik ic mc ms : Nat} {A : Nat → Prop}
    (hown : s.vm.findClass own = some m.cls) (hcls : Bundle.fit cls = true) (hnames : ∀ n ∈ names, Bundle.fit n = true)
    (hk : (Cond.classLink own ik cls).before args s = true) (hini : (Cond.initialized cls).before args s = true) (hat : ∀ w ∈ vx_at0 own ic cls names, w.before args s = true)
    (hgood : ∀ w ∈ Cond.classLink own ik cls :: Cond.initialized cls :: vx_at0 own ic cls names, vx_ot w = true)
    (hU : vx_Zq Bundle.tN "UNASSIGNED_STACK" Bundle.steD A s s.heap) (hN : vx_Zq Bundle.tN "SUPPRESSED_SENTINEL" Bundle.listD A s s.heap) (hS : va_S A s.heap H locs) (hsize : ls.size = c.maxLocals)
    (d0 : decode cc pc = .ok (.new ik, 3)) (d3 : decode cc (pc + 3) = .ok (.dup, 1)) (d4 : decode cc (pc + 4) = .ok (.invokespecial ic, 3)) (d7 : decode cc (pc + 7) = .ok (.athrow, 1))
    (hout : ∀ x ∈ c.exceptionTable.toList, covers x (pc + 7) = false)
    (hRframes : names.length + 3 < R.frames) (hRlocals : (rest.map fun v => v.category).sum + (13 * (names.length + 1) + 42) ≤ R.locals) (hRcells : cells + 1 ≤ R.cells) (hRslots : slots + 6 ≤ R.slots) (hlocks : meth.locks = false)
    (hx : ∀ t : State, s.vm.Alike t.vm → H.size ≤ t.heap.size → (∀ q : Nat, q < H.size → t.heap[q]? = H[q]?) → XC cls s t)
    (hf : ∀ z ∈ locs, free z.base) (hc : cells + 1 ≤ mc) (hs : slots + 6 ≤ ms) :
    W p l e R s m args below meth c H locs cells slots (vx_MQ below Qc XC args s mc ms free) (F0 m pc ls rest) := by
  intro T hT X
  have htr : e.platform.stackTraces = false := (show e.platform.stackTraces = l.stackTraces by rw [X.admits.platform]).trans hl
  have Y := vx_rebase X (R' := { frames := R.frames, locals := R.locals, cells := 1, slots := 6 }) (Nat.le_refl _) (Nat.le_refl _) hRcells hRslots
  obtain ⟨s', hA⟩ : ∃ z, z = (T.setVm s.vm).setFrames (.invoking m args :: below) := ⟨_, rfl⟩
  rw [← hA] at Y
  have hvm : s'.vm = s.vm := by rw [hA]; rfl
  have hhp : s'.heap = H := by rw [hA]; exact hT
  have hW0 : s.WarmedH s'.vm := by rw [hvm]; exact State.WarmedH.refl s
  have hat' : ∀ w ∈ vx_at0 own ic cls names, w.before args s' = true := fun w hw => vx_ot_at hW0 hvm.symm (hgood w (List.mem_cons_of_mem _ (List.mem_cons_of_mem _ hw))) (hat w hw)
  have hk' : (Cond.classLink own ik cls).before args s' = true := vx_ot_at hW0 hvm.symm (hgood _ List.mem_cons_self) hk
  have hini' : (Cond.initialized cls).before args s' = true := vx_ot_at hW0 hvm.symm (hgood _ (List.mem_cons_of_mem _ List.mem_cons_self)) hini
  have hU' : vx_Zq Bundle.tN "UNASSIGNED_STACK" Bundle.steD A s' s'.heap := by rw [hhp]; exact vx_Zq.moved hW0.alike (hU.kept hS.2.1)
  have hN' : vx_Zq Bundle.tN "SUPPRESSED_SENTINEL" Bundle.listD A s' s'.heap := by rw [hhp]; exact vx_Zq.moved hW0.alike (hN.kept hS.2.1)
  have h : ∀ w ∈ Bundle.ownAtoms0 own ic cls names, w.before args s' = true := vx_own hat' (vx_isRefq hU'.1) (vx_isRefq hN'.1) hU'.2.word hN'.2.word
  have hown' : s'.vm.findClass own = some m.cls := by rw [hvm]; exact hown
  have hins : (Cond.instantiable cls 6).before args s' = true := h _ (by simp [Bundle.ownAtoms0])
  obtain ⟨vm₁, cX, kX, hfX, hkX, -, -, X₁, st1⟩ := Y.newCold hexec (own := own) (C := cls) (index := ik) (n := 6) hown' hk' hins hini'
    (g := F0 m pc ls rest) rfl (by rw [hb]; exact d0) (Nat.le_refl _) (Nat.le_refl _)
  generalize hT1 : (T.setVm vm₁).pushCell { cls := cX, slots := kX.instanceTypes.map defaultValue, vm := .none } = T1 at X₁ st1
  have hcat : (Value.ref T.heap.size).category = 1 := rfl
  have hcellA : T1.heap[T.heap.size]? = some (freshCell cX kX) := by rw [← hT1]; exact State.heap_pushCell_size _ _
  have d3' : decode c.code (pc + 3) = .ok (.dup, 1) := by rw [hb]; exact d3
  obtain ⟨U, hsteps, hrun, hend, hW, hsame, ce, hce, hO⟩ := X₁.ctorThrow0 hexec htr (own := own) (cls := cls) (names := names) (ic := ic) hown' hcls hnames h (fun x hx => nomatch hx) hfX hkX hcellA (by rw [hhp, hT]; exact Nat.le_refl _)
    (g := { method := m, pc := pc + 4, locals := ls, stack := .ref T.heap.size :: .ref T.heap.size :: rest, locked := none }) rfl hsize rfl rfl (rest := rest) rfl
    (by rw [hb]; exact d4) (by rw [hb]; exact d7) hout hRframes (by simp only [List.map_cons, List.sum_cons, hcat]; omega) hlocks
  obtain ⟨f1, f2⟩ := vx_frame hsame
  rw [hhp] at f1 f2
  have hWs : s.WarmedH U.vm := State.WarmedH.trans hW0 hW
  have hcl : s.vm.findClass cls = some ce.cls := by
    have h9 := hO.cls
    rw [hvm] at h9
    exact h9
  have hall : s.sameButNew ({ U with vm := s.vm } : State) locs mc ms := by
    subst hA
    obtain ⟨e1, e2⟩ := hsame
    rw [State.setFrames_setFrames] at e1
    have h2 : (T.setVm s.vm).sameButNew ({ U with vm := s.vm } : State) [] (0 + 1) (0 + 6) := ⟨e1, e2⟩
    have h3 := X.same.trans h2
    rw [List.append_nil] at h3
    exact h3.mono hc hs
  refine ⟨U, ?_, .threw T.heap.size, hrun, hend, Or.inr ⟨T.heap.size, rfl, cls, ce, locs, hx U hWs.alike f1 (fun q hq => f2 q hq (fun z hz => nomatch hz)), hce, hO.vm, hcl, hWs, hall, hf⟩⟩
  refine st1 _ ?_
  show Steps p.tables e below (T1.setTop { method := m, pc := pc + 3, locals := ls, stack := .ref T.heap.size :: rest, locked := none }) _
  jvm_step X₁.here [X₁.here.top, hexec, d3', Value.category]
  exact hsteps
/-- 'throw new E("text")': new; dup; ldc; invokespecial; athrow -/
theorem vx_throwS {cc : ByteArray} {pc : Nat} (hexec : p.tables.exec = Jvm.exec) (hb : c.code = cc) (hl : l.stackTraces = false) {own cls text : String} {names : List String} {ik is ic mc ms sa : Nat} {A : Nat → Prop}
    (hown : s.vm.findClass own = some m.cls) (hcls : Bundle.fit cls = true) (hnames : ∀ n ∈ names, Bundle.fit n = true)
    (hk : (Cond.classLink own ik cls).before args s = true) (hini : (Cond.initialized cls).before args s = true) (hstr : vk_R own is text sa s) (hat : ∀ w ∈ vx_atS own ic cls names, w.before args s = true)
    (hgood : ∀ w ∈ Cond.classLink own ik cls :: Cond.initialized cls :: vx_atS own ic cls names, vx_ot w = true)
    (hU : vx_Zq Bundle.tN "UNASSIGNED_STACK" Bundle.steD A s s.heap) (hN : vx_Zq Bundle.tN "SUPPRESSED_SENTINEL" Bundle.listD A s s.heap) (hS : va_S A s.heap H locs) (hsize : ls.size = c.maxLocals)
    (d0 : decode cc pc = .ok (.new ik, 3)) (d3 : decode cc (pc + 3) = .ok (.dup, 1)) (d4 : decode cc (pc + 4) = .ok (.ldc is, 2)) (d6 : decode cc (pc + 6) = .ok (.invokespecial ic, 3)) (d9 : decode cc (pc + 9) = .ok (.athrow, 1))
    (hout : ∀ x ∈ c.exceptionTable.toList, covers x (pc + 9) = false)
    (hRframes : names.length + 3 < R.frames) (hRlocals : (rest.map fun v => v.category).sum + (13 * (names.length + 1) + 43) ≤ R.locals) (hRcells : cells + 1 ≤ R.cells) (hRslots : slots + 6 ≤ R.slots) (hlocks : meth.locks = false)
    (hx : ∀ t : State, s.vm.Alike t.vm → H.size ≤ t.heap.size → (∀ q : Nat, q < H.size → t.heap[q]? = H[q]?) → XC cls s t)
    (hf : ∀ z ∈ locs, free z.base) (hc : cells + 1 ≤ mc) (hs : slots + 6 ≤ ms) :
    W p l e R s m args below meth c H locs cells slots (vx_MQ below Qc XC args s mc ms free) (F0 m pc ls rest) := by
  intro T hT X
  have htr : e.platform.stackTraces = false := (show e.platform.stackTraces = l.stackTraces by rw [X.admits.platform]).trans hl
  have Y := vx_rebase X (R' := { frames := R.frames, locals := R.locals, cells := 1, slots := 6 }) (Nat.le_refl _) (Nat.le_refl _) hRcells hRslots
  obtain ⟨s', hA⟩ : ∃ z, z = (T.setVm s.vm).setFrames (.invoking m args :: below) := ⟨_, rfl⟩
  rw [← hA] at Y
  have hvm : s'.vm = s.vm := by rw [hA]; rfl
  have hhp : s'.heap = H := by rw [hA]; exact hT
  have hW0 : s.WarmedH s'.vm := by rw [hvm]; exact State.WarmedH.refl s
  have hat' : ∀ w ∈ vx_atS own ic cls names, w.before args s' = true := fun w hw => vx_ot_at hW0 hvm.symm (hgood w (List.mem_cons_of_mem _ (List.mem_cons_of_mem _ hw))) (hat w hw)
  have hk' : (Cond.classLink own ik cls).before args s' = true := vx_ot_at hW0 hvm.symm (hgood _ List.mem_cons_self) hk
  have hini' : (Cond.initialized cls).before args s' = true := vx_ot_at hW0 hvm.symm (hgood _ (List.mem_cons_of_mem _ List.mem_cons_self)) hini
  have hU' : vx_Zq Bundle.tN "UNASSIGNED_STACK" Bundle.steD A s' s'.heap := by rw [hhp]; exact vx_Zq.moved hW0.alike (hU.kept hS.2.1)
  have hN' : vx_Zq Bundle.tN "SUPPRESSED_SENTINEL" Bundle.listD A s' s'.heap := by rw [hhp]; exact vx_Zq.moved hW0.alike (hN.kept hS.2.1)
  have h : ∀ w ∈ Bundle.ownAtoms own ic cls names, w.before args s' = true := vx_own hat' (vx_isRefq hU'.1) (vx_isRefq hN'.1) hU'.2.word hN'.2.word
  have hown' : s'.vm.findClass own = some m.cls := by rw [hvm]; exact hown
  have hins : (Cond.instantiable cls 6).before args s' = true := h _ (by simp [Bundle.ownAtoms])
  obtain ⟨vm₁, cX, kX, hfX, hkX, -, -, X₁, st1⟩ := Y.newCold hexec (own := own) (C := cls) (index := ik) (n := 6) hown' hk' hins hini'
    (g := F0 m pc ls rest) rfl (by rw [hb]; exact d0) (Nat.le_refl _) (Nat.le_refl _)
  generalize hT1 : (T.setVm vm₁).pushCell { cls := cX, slots := kX.instanceTypes.map defaultValue, vm := .none } = T1 at X₁ st1
  have hcat : (Value.ref T.heap.size).category = 1 := rfl
  have hcellA : T1.heap[T.heap.size]? = some (freshCell cX kX) := by rw [← hT1]; exact State.heap_pushCell_size _ _
  have d3' : decode c.code (pc + 3) = .ok (.dup, 1) := by rw [hb]; exact d3
  have d4' : decode c.code (pc + 4) = .ok (.ldc is, 2) := by rw [hb]; exact d4
  have hstr' : vk_R own is text sa s' := vk_R.warm hW0 hstr
  obtain ⟨U, hsteps, hrun, hend, hW, hsame, ce, hce, hO⟩ := X₁.ctorThrowS hexec htr (own := own) (cls := cls) (names := names) (ic := ic) hown' hcls hnames h (fun x hx => nomatch hx) hfX hkX hcellA (by rw [hhp, hT]; exact Nat.le_refl _) (msg := .ref sa) rfl
    (g := { method := m, pc := pc + 6, locals := ls, stack := .ref sa :: .ref T.heap.size :: .ref T.heap.size :: rest, locked := none }) rfl hsize rfl rfl (rest := rest) rfl
    (by rw [hb]; exact d6) (by rw [hb]; exact d9) hout hRframes (by simp only [List.map_cons, List.sum_cons, hcat]; omega) hlocks
  obtain ⟨f1, f2⟩ := vx_frame hsame
  rw [hhp] at f1 f2
  have hWs : s.WarmedH U.vm := State.WarmedH.trans hW0 hW
  have hcl : s.vm.findClass cls = some ce.cls := by
    have h9 := hO.cls
    rw [hvm] at h9
    exact h9
  have hall : s.sameButNew ({ U with vm := s.vm } : State) locs mc ms := by
    subst hA
    obtain ⟨e1, e2⟩ := hsame
    rw [State.setFrames_setFrames] at e1
    have h2 : (T.setVm s.vm).sameButNew ({ U with vm := s.vm } : State) [] (0 + 1) (0 + 6) := ⟨e1, e2⟩
    have h3 := X.same.trans h2
    rw [List.append_nil] at h3
    exact h3.mono hc hs
  refine ⟨U, ?_, .threw T.heap.size, hrun, hend, Or.inr ⟨T.heap.size, rfl, cls, ce, locs, hx U hWs.alike f1 (fun q hq => f2 q hq (fun z hz => nomatch hz)), hce, hO.vm, hcl, hWs, hall, hf⟩⟩
  refine st1 _ ?_
  show Steps p.tables e below (T1.setTop { method := m, pc := pc + 3, locals := ls, stack := .ref T.heap.size :: rest, locked := none }) _
  jvm_step X₁.here [X₁.here.top, hexec, d3', Value.category]
  exact X₁.ldcString hexec (own := own) (text := text) (index := is) (a := sa) hown' hstr'.1 hstr'.2
    (g := { method := m, pc := pc + 4, locals := ls, stack := .ref T.heap.size :: .ref T.heap.size :: rest, locked := none }) rfl d4' _ hsteps
/-- 'throw new E("text")', the text by a wide index -/
theorem vx_throwSW {cc : ByteArray} {pc : Nat} (hexec : p.tables.exec = Jvm.exec) (hb : c.code = cc) (hl : l.stackTraces = false) {own cls text : String} {names : List String} {ik is ic mc ms sa : Nat} {A : Nat → Prop}
    (hown : s.vm.findClass own = some m.cls) (hcls : Bundle.fit cls = true) (hnames : ∀ n ∈ names, Bundle.fit n = true)
    (hk : (Cond.classLink own ik cls).before args s = true) (hini : (Cond.initialized cls).before args s = true) (hstr : vk_R own is text sa s) (hat : ∀ w ∈ vx_atS own ic cls names, w.before args s = true)
    (hgood : ∀ w ∈ Cond.classLink own ik cls :: Cond.initialized cls :: vx_atS own ic cls names, vx_ot w = true)
    (hU : vx_Zq Bundle.tN "UNASSIGNED_STACK" Bundle.steD A s s.heap) (hN : vx_Zq Bundle.tN "SUPPRESSED_SENTINEL" Bundle.listD A s s.heap) (hS : va_S A s.heap H locs) (hsize : ls.size = c.maxLocals)
    (d0 : decode cc pc = .ok (.new ik, 3)) (d3 : decode cc (pc + 3) = .ok (.dup, 1)) (d4 : decode cc (pc + 4) = .ok (.ldc_w is, 3)) (d7 : decode cc (pc + 7) = .ok (.invokespecial ic, 3)) (d10 : decode cc (pc + 10) = .ok (.athrow, 1))
    (hout : ∀ x ∈ c.exceptionTable.toList, covers x (pc + 10) = false)
    (hRframes : names.length + 3 < R.frames) (hRlocals : (rest.map fun v => v.category).sum + (13 * (names.length + 1) + 43) ≤ R.locals) (hRcells : cells + 1 ≤ R.cells) (hRslots : slots + 6 ≤ R.slots) (hlocks : meth.locks = false)
    (hx : ∀ t : State, s.vm.Alike t.vm → H.size ≤ t.heap.size → (∀ q : Nat, q < H.size → t.heap[q]? = H[q]?) → XC cls s t)
    (hf : ∀ z ∈ locs, free z.base) (hc : cells + 1 ≤ mc) (hs : slots + 6 ≤ ms) :
    W p l e R s m args below meth c H locs cells slots (vx_MQ below Qc XC args s mc ms free) (F0 m pc ls rest) := by
  intro T hT X
  have htr : e.platform.stackTraces = false := (show e.platform.stackTraces = l.stackTraces by rw [X.admits.platform]).trans hl
  have Y := vx_rebase X (R' := { frames := R.frames, locals := R.locals, cells := 1, slots := 6 }) (Nat.le_refl _) (Nat.le_refl _) hRcells hRslots
  obtain ⟨s', hA⟩ : ∃ z, z = (T.setVm s.vm).setFrames (.invoking m args :: below) := ⟨_, rfl⟩
  rw [← hA] at Y
  have hvm : s'.vm = s.vm := by rw [hA]; rfl
  have hhp : s'.heap = H := by rw [hA]; exact hT
  have hW0 : s.WarmedH s'.vm := by rw [hvm]; exact State.WarmedH.refl s
  have hat' : ∀ w ∈ vx_atS own ic cls names, w.before args s' = true := fun w hw => vx_ot_at hW0 hvm.symm (hgood w (List.mem_cons_of_mem _ (List.mem_cons_of_mem _ hw))) (hat w hw)
  have hk' : (Cond.classLink own ik cls).before args s' = true := vx_ot_at hW0 hvm.symm (hgood _ List.mem_cons_self) hk
  have hini' : (Cond.initialized cls).before args s' = true := vx_ot_at hW0 hvm.symm (hgood _ (List.mem_cons_of_mem _ List.mem_cons_self)) hini
  have hU' : vx_Zq Bundle.tN "UNASSIGNED_STACK" Bundle.steD A s' s'.heap := by rw [hhp]; exact vx_Zq.moved hW0.alike (hU.kept hS.2.1)
  have hN' : vx_Zq Bundle.tN "SUPPRESSED_SENTINEL" Bundle.listD A s' s'.heap := by rw [hhp]; exact vx_Zq.moved hW0.alike (hN.kept hS.2.1)
  have h : ∀ w ∈ Bundle.ownAtoms own ic cls names, w.before args s' = true := vx_own hat' (vx_isRefq hU'.1) (vx_isRefq hN'.1) hU'.2.word hN'.2.word
  have hown' : s'.vm.findClass own = some m.cls := by rw [hvm]; exact hown
  have hins : (Cond.instantiable cls 6).before args s' = true := h _ (by simp [Bundle.ownAtoms])
  obtain ⟨vm₁, cX, kX, hfX, hkX, -, -, X₁, st1⟩ := Y.newCold hexec (own := own) (C := cls) (index := ik) (n := 6) hown' hk' hins hini'
    (g := F0 m pc ls rest) rfl (by rw [hb]; exact d0) (Nat.le_refl _) (Nat.le_refl _)
  generalize hT1 : (T.setVm vm₁).pushCell { cls := cX, slots := kX.instanceTypes.map defaultValue, vm := .none } = T1 at X₁ st1
  have hcat : (Value.ref T.heap.size).category = 1 := rfl
  have hcellA : T1.heap[T.heap.size]? = some (freshCell cX kX) := by rw [← hT1]; exact State.heap_pushCell_size _ _
  have d3' : decode c.code (pc + 3) = .ok (.dup, 1) := by rw [hb]; exact d3
  have d4' : decode c.code (pc + 4) = .ok (.ldc_w is, 3) := by rw [hb]; exact d4
  have hstr' : vk_R own is text sa s' := vk_R.warm hW0 hstr
  obtain ⟨U, hsteps, hrun, hend, hW, hsame, ce, hce, hO⟩ := X₁.ctorThrowS hexec htr (own := own) (cls := cls) (names := names) (ic := ic) hown' hcls hnames h (fun x hx => nomatch hx) hfX hkX hcellA (by rw [hhp, hT]; exact Nat.le_refl _) (msg := .ref sa) rfl
    (g := { method := m, pc := pc + 7, locals := ls, stack := .ref sa :: .ref T.heap.size :: .ref T.heap.size :: rest, locked := none }) rfl hsize rfl rfl (rest := rest) rfl
    (by rw [hb]; exact d7) (by rw [hb]; exact d10) hout hRframes (by simp only [List.map_cons, List.sum_cons, hcat]; omega) hlocks
  obtain ⟨f1, f2⟩ := vx_frame hsame
  rw [hhp] at f1 f2
  have hWs : s.WarmedH U.vm := State.WarmedH.trans hW0 hW
  have hcl : s.vm.findClass cls = some ce.cls := by
    have h9 := hO.cls
    rw [hvm] at h9
    exact h9
  have hall : s.sameButNew ({ U with vm := s.vm } : State) locs mc ms := by
    subst hA
    obtain ⟨e1, e2⟩ := hsame
    rw [State.setFrames_setFrames] at e1
    have h2 : (T.setVm s.vm).sameButNew ({ U with vm := s.vm } : State) [] (0 + 1) (0 + 6) := ⟨e1, e2⟩
    have h3 := X.same.trans h2
    rw [List.append_nil] at h3
    exact h3.mono hc hs
  refine ⟨U, ?_, .threw T.heap.size, hrun, hend, Or.inr ⟨T.heap.size, rfl, cls, ce, locs, hx U hWs.alike f1 (fun q hq => f2 q hq (fun z hz => nomatch hz)), hce, hO.vm, hcl, hWs, hall, hf⟩⟩
  refine st1 _ ?_
  show Steps p.tables e below (T1.setTop { method := m, pc := pc + 3, locals := ls, stack := .ref T.heap.size :: rest, locked := none }) _
  jvm_step X₁.here [X₁.here.top, hexec, d3', Value.category]
  exact X₁.ldcStringW hexec (own := own) (text := text) (index := is) (a := sa) hown' hstr'.1 hstr'.2
    (g := { method := m, pc := pc + 4, locals := ls, stack := .ref T.heap.size :: .ref T.heap.size :: rest, locked := none }) rfl d4' _ hsteps
end Ends
section Bodies
variable {l : Launch}
theorem vx_ofW {y : MethodName} {ws ws' : List Cond} {rm : Room} {Pc : Array Value → State → Prop} {Qc : Array Value → State → Outcome → State → Prop} {XC : String → State → State → Prop} {mc ms : Nat} {free : Addr → Prop} {cc : ByteArray} {maxL : Nat} {ret : Option FieldType}
    (hy : plainName y.cls = true) (hw : ws = Cond.code y cc maxL ret :: ws')
    (body : ∀ p e s m args below meth c s₁, BodyLoose p l y (headSpec ws rm) cc maxL ret e s m args below meth c s₁ → c.maxLocals = maxL → (∀ x ∈ c.exceptionTable.toList, False) → Pc args s →
      W p l e (headSpec ws rm).room s m args below meth c s.heap [] 0 0 (vx_MQ below Qc XC args s mc ms free) (entryFrame m args maxL)) : vx_Met l y ws rm Pc Qc XC mc ms free := by
  refine MetFree.of_bodyS (code := cc) (maxLocals := maxL) (ret := ret) hy ?_ ?_
  · intro args s m h hn
    obtain ⟨meth, c, h1, h2, h3, h4, h5, h6, -, -⟩ := Cond.code_spec hn (atoms_spec (ws := ws) h _ (by rw [hw]; exact List.mem_cons_self))
    exact ⟨meth, c, h1, h2, h3, h4, h5, h6⟩
  · intro p e s m args below meth c s₁ B hml hP _
    have hh0 : s₁.heap = s.heap := by rw [B.state]; rfl
    have ht : ∀ x ∈ c.exceptionTable.toList, False := by
      obtain ⟨meth9, c9, h1, h2, -, -, -, -, h7, -⟩ := Cond.code_spec B.named (atoms_spec (ws := ws) B.pre _ (by rw [hw]; exact List.mem_cons_self))
      cases Option.some.inj (h1.symm.trans B.method)
      cases Option.some.inj (h2.symm.trans (Stand.of_body B).code)
      intro x hx
      rw [Array.isEmpty_iff.mp h7] at hx
      cases hx
    obtain ⟨t, a1, o, b1, b2, b3⟩ := body p e s m args below meth c s₁ B hml ht hP s₁ hh0 (Stand.of_body B)
    exact ⟨t, o, a1, b1, b2, b3⟩
/-- the table of a body with handlers -/
theorem vx_table {p : Program} {x y : MethodName} {S : Spec} {cc bytes : ByteArray} {maxL maxL' : Nat} {ret ret' : Option FieldType} {e : Env} {s s₁ : State} {m : MethodId} {args : Array Value} {below : List Frame} {meth : Method} {c : Code} {hh : List (Nat × Nat × Nat × Nat)}
    (B : BodyLoose p l y S cc maxL ret e s m args below meth c s₁) (h : (Cond.codeWith y bytes maxL' ret' hh).before args s = true) : c.exceptionTable.toList = tableOf hh := by
  obtain ⟨m9, meth9, c9, hn9, h1, h2, -, -, h6, -⟩ := Cond.codeWith_spec h
  cases Option.some.inj (hn9.symm.trans B.named)
  cases Option.some.inj (h1.symm.trans B.method)
  cases Option.some.inj (h2.symm.trans (Stand.of_body B).code)
  rw [← h6, table_eq]
end Bodies
end VXA
/-! ===== END ===== -/
/-! ===== BEGIN a static call of a method with an exception table ===== -/
section VXS
variable {p : Program} {l : Launch} {e : Env} {R : Room} {s : State} {m : MethodId} {args : Array Value} {below : List Frame} {meth : Method} {c : Code} {T : State} {H : Heap} {locs : List Loc} {cells slots : Nat}
abbrev vx_CSW (R : Room) (s : State) (args : Array Value) (own : String) (index : Nat) (y : MethodName) (bytes : ByteArray) (maxL : Nat) (ret : Option FieldType) (hh : List (Nat × Nat × Nat × Nat)) (ws : List Cond) (rm : Room) (mc ms n : Nat) : Prop :=
  (rm.cells = mc ∧ rm.slots = ms ∧ rm.frames + 1 ≤ R.frames ∧ 8 + (maxL + 11) + rm.locals ≤ R.locals ∧ (∀ w ∈ ws, ∀ (a' : Array Value) (U : State), s.WarmedH U.vm → w.before a' U = true) ∧ Cond.codeWith y bytes maxL ret hh ∈ ws) ∧
  (Cond.codeWith y bytes maxL ret hh).before args s = true ∧ (Cond.initialized y.cls).before args s = true ∧ (y.cls ≠ "java/lang/invoke/MethodHandle" ∧ y.cls ≠ "java/lang/invoke/VarHandle") ∧
  (∀ sig, parseMethodDescriptor y.desc = some sig → n = sig.parameters.length) ∧ (Cond.methodLink own index y).before args s = true ∧ (Cond.static y).before args s = true
theorem vx_cwSW {own : String} {index maxL mc ms : Nat} {y : MethodName} {bytes : ByteArray} {ret : Option FieldType} {hh : List (Nat × Nat × Nat × Nat)} {Ts ws ws' : List Cond} {rm : Room} (n : Nat) (ht : ∀ w ∈ Ts, w.before args s = true) (hT : GoodIn Ts (va_wsS own index y ws)) (hw : ws = Cond.codeWith y bytes maxL ret hh :: ws') (hrc : rm.cells = mc) (hrs : rm.slots = ms)
    (hd : y.cls ≠ "java/lang/invoke/MethodHandle" ∧ y.cls ≠ "java/lang/invoke/VarHandle" ∧ (parseMethodDescriptor y.desc).map (fun d => d.parameters.length) = some n) (hR : rm.frames + 1 ≤ R.frames ∧ 8 + (maxL + 11) + rm.locals ≤ R.locals) :
    vx_CSW R s args own index y bytes maxL ret hh ws rm mc ms n := by
  have ok : ∀ w ∈ va_wsS own index y ws, w.before args s = true := fun w h => ht w (hT w h).1
  have hG : GoodIn Ts ws := fun w h => hT w (by unfold va_wsS; exact List.mem_append_right _ h)
  have hc : Cond.codeWith y bytes maxL ret hh ∈ ws := by rw [hw]; exact List.mem_cons_self
  refine ⟨⟨hrc, hrs, hR.1, hR.2, pay_in ht hG, hc⟩, ht _ (hG _ hc).1, ok _ (by simp [va_wsS]), ⟨hd.1, hd.2.1⟩, fun sig h => ?_, ok _ (by simp [va_wsS]), ok _ (by simp [va_wsS])⟩
  have h2 := hd.2.2
  rw [h] at h2
  exact (Option.some.inj h2).symm
theorem vx_callSW (X : Stand p l e R s m args below meth c T locs cells slots) (hexec : p.tables.exec = Jvm.exec) {own : String} {index : Nat} {y : MethodName} {bytes : ByteArray} {maxL : Nat} {ret : Option FieldType} {hh : List (Nat × Nat × Nat × Nat)}
    (hown : s.vm.findClass own = some m.cls) (hlink : (Cond.methodLink own index y).before args s = true) (hstat : (Cond.static y).before args s = true) (hinit : (Cond.initialized y.cls).before args s = true)
    (hcode : (Cond.codeWith y bytes maxL ret hh).before args s = true) (hy : y.cls ≠ "java/lang/invoke/MethodHandle" ∧ y.cls ≠ "java/lang/invoke/VarHandle")
    {W9 : Nat} {Pre : Pt → Array Value → Prop} {Post : Pt → Array Value → Option Value → Pt → Prop} (hK : Back l R p e below s args y 3 W9 Pre Post)
    {g : JFrame} (hg : g.method = m) (hsize : g.locals.size = c.maxLocals) {argsL rest : List Value} (hlen : ∀ sig, parseMethodDescriptor y.desc = some sig → argsL.length = sig.parameters.length)
    (hstack : g.stack = argsL.reverse ++ rest) (hW : 2 * g.monitorRoom + (rest.map fun v => v.category).sum ≤ W9) (hdg : decode c.code g.pc = .ok (.invokestatic index, 3))
    (hpre : ∀ vm₁, s.WarmedH vm₁ → Pre ⟨T.setVm vm₁, locs, cells, slots⟩ argsL.toArray) :
    ∃ (v : Option Value) (vm₁ : Vm) (B : Pt), s.WarmedH vm₁ ∧ Stand p l e R s m args below meth c B.U B.locs B.cells B.slots ∧ Post ⟨T.setVm vm₁, locs, cells, slots⟩ argsL.toArray v B ∧
      ∀ target, Steps p.tables e below (B.U.setTop { g with pc := g.pc + 3, stack := v.toList ++ rest }) target → Steps p.tables e below (T.setTop g) target := by
  obtain ⟨mk, methM, cM, hnamed, hmethM, -, -, -, -, -, -, hsigM⟩ := Cond.codeWith_spec hcode
  have hstatic : methM.isStatic = true := Cond.static_spec hnamed hmethM hstat
  obtain ⟨kP, hkP, -⟩ := className_of_methodNamed hnamed
  have hinitP : kP.init = .initialized := Cond.initialized_spec (findClass_of_methodNamed hnamed) hkP hinit
  obtain ⟨vm₁, X₁, hstep₁⟩ := X.invokestatic hexec hown hlink hnamed hmethM hstatic hkP hinitP hy (g := g) hg (argsL := argsL) (rest := rest) (hlen _ hsigM) hstack hdg
  obtain ⟨v, B, X', hpost, hsteps⟩ := hK m meth c ⟨T.setVm vm₁, locs, cells, slots⟩ { g with stack := rest } (.invokestatic index) mk argsL.toArray X₁ hg hsize hdg hW (X₁.named hnamed) (hpre vm₁ X₁.warmed)
  exact ⟨v, vm₁, B, X₁.warmed, X', hpost, fun target h => hstep₁ _ fun acts => by rw [doInvoke_state]; exact hsteps.trans h⟩
theorem vx_runSW {y : MethodName} {bytes cc : ByteArray} {maxL nL mc ms n index : Nat} {ret : Option FieldType} {hh : List (Nat × Nat × Nat × Nat)} {ws : List Cond} {rm : Room} {Pc : Array Value → State → Prop} {Qc : Array Value → State → Outcome → State → Prop} {free : Addr → Prop} {Ts : List Cond} {own : String} {As rest : List Value} {g : JFrame}
    (S : CallFix p m c cc nL s args Ts own) (hM : Met l y ws rm Pc Qc mc ms free) (cw : vx_CSW R s args own index y bytes maxL ret hh ws rm mc ms n) (hp : PreS s H Pc As)
    (hg : g.method = m) (hn : As.length = n) (hsize : g.locals.size = nL) (hstack : g.stack = As.reverse ++ rest) (hW : 2 * g.monitorRoom + (rest.map fun v => v.category).sum ≤ 8) (hdg : decode cc g.pc = .ok (.invokestatic index, 3)) (hf : cells + mc ≤ R.cells ∧ slots + ms ≤ R.slots) :
    va_Run p l e R s m args below meth c H locs cells slots mc ms g rest (Qc As.toArray) (free) := by
  obtain ⟨⟨hrc, hrs, hfr, hlo, hws, hcw⟩, hcode, hini, hy, hlen, hl, hstt⟩ := cw
  have hK : Back l R p e below s args y 3 8 (PreOf R mc ms Pc) (PostOf Qc mc ms free) := va_backW (hh := hh) (bytes := bytes) (maxL := maxL) (ret := ret) hM hp.1 hrc hrs hfr hlo hws hcw (fun a' U hW => word_at hW (Or.inl (by first | rfl | simp [Cond.onTables, Cond.keeps, Cond.steady])) hini)
  obtain ⟨hx, hb, hml, ho, -⟩ := S
  intro T hT X
  obtain ⟨v, vm₁, ⟨U', l2, c2, s2⟩, hW₁, X', ⟨g', mk, t, L, e1, e2, hq, h1, hL, h2, h3⟩, st⟩ := vx_callSW X hx (hh := hh) (bytes := bytes) (maxL := maxL) (ret := ret) ho hl hstt hini hcode hy hK hg (hsize.trans hml.symm) (argsL := As) (rest := rest) (fun sig h => hn.trans (hlen sig h)) hstack hW (by rw [hb]; exact hdg)
    (fun vm₁ hW₁ => ⟨hf.1, hf.2, hp.2 (T.setVm vm₁) hT hW₁⟩)
  dsimp only [Pt.U, Pt.locs, Pt.cells, Pt.slots] at X' e1 e2 h1 h2 h3 st
  subst h1; subst h2; subst h3
  exact ⟨v, (T.setVm vm₁).calling g' mk As.toArray, t, U', L, hT, X', hL, e1, e2, hq, st⟩
/-- not caught here, past rows that name other classes: it goes on to the caller -/
theorem vx_outP {p : Program} {l : Launch} {e : Env} {R : Room} {s : State} {m : MethodId} {args : Array Value} {below : List Frame} {meth : Method} {c : Code} {H : Heap} {locs : List Loc} {cells slots : Nat} {free : Addr → Prop} {ls : Array Slot} {rest : List Value} {Qc : Array Value → State → Outcome → State → Prop} {XC : String → State → State → Prop}
    {pc : Nat} {own E : String} {ce : Cell} {q : Addr} {mc ms : Nat} (hown : s.vm.findClass own = some m.cls) (hlocks : meth.locks = false)
    (hpass : ∀ z ∈ c.exceptionTable.toList, covers z pc = false ∨ (z.catchType ≠ 0 ∧ ∃ nm : String, (Cond.classLink own z.catchType nm).before args s = true ∧ va_Nc E nm s)) (hcell : H[q]? = some ce) (hv : ce.vm = .none) (hcl : s.vm.findClass E = some ce.cls)
    (hx : ∀ t : State, t.heap = H → s.vm.Alike t.vm → XC E s t) (hf : ∀ z ∈ locs, free z.base) (hc : cells ≤ mc) (hs : slots ≤ ms) :
    vx_W p l e R s m args below meth c H locs cells slots (vx_MQ below Qc XC args s mc ms free) (F0 m pc ls rest) q := by
  intro T hT X
  have hpl : e.platform.magicAccessors = ({} : Platform).magicAccessors := by rw [X.admits.platform]
  obtain ⟨vm', hW', X', st⟩ := X.outThrough hlocks q (g := F0 m pc ls rest) rfl rfl rfl (cell := ce) (by rw [hT]; exact hcell) (by rw [hv]; rfl)
    (by obtain ⟨k9, h9, -⟩ := Vm.findClass_spec hcl; exact ⟨k9, h9⟩) (fun z hz => by
      rcases hpass z hz with h | ⟨hz0, nm, hl1, hn1⟩
      · exact Or.inl h
      · obtain ⟨c6, hc6, hcl6⟩ := Cond.classLink_spec hown hl1 e.platform hpl
        obtain ⟨a8, b8, h1, h2, h3⟩ := hn1
        cases Option.some.inj (h1.symm.trans hcl)
        cases Option.some.inj (h2.symm.trans hc6)
        exact Or.inr ⟨hz0, _, hcl6, h3⟩)
  obtain ⟨g₀, hfr⟩ := X'.frames_eq
  have hcell9 : ((T.setVm vm').setFrames (.throwing q :: below)).heap[q]? = some ce := by
    show T.heap[q]? = some ce
    rw [hT]; exact hcell
  have hend : Ended ((T.setVm vm').setFrames (.throwing q :: below)) below (.threw q) := State.frames_setFrames _ (State.cur_lt_of_frames hfr)
  refine ⟨(T.setVm vm').setFrames (.throwing q :: below), ?_, .threw q, X'.here.running, hend, Or.inr ⟨q, rfl, E, ce, locs, hx _ hT (X'.ends _).1.alike, hcell9, hv, hcl, (X'.ends _).1, (X'.ends _).2.mono hc hs, hf⟩⟩
  rw [X.pushThrowing_eq]
  exact st
/-- a thing of a world lies in the heap -/
theorem vx_lt {D : va_G} {cl : List vw_C} {ws : va_W} {H1 : Heap} (h : va_P D cl ws H1) {k : Nat} {q : Nat × va_E} (hk : ws[k]? = some q) : q.1 < H1.size := (h k q hk).lt
end VXS
/-! ===== END ===== -/
/-! ===== BEGIN methods with a table of their own: called by a name, returning or throwing ===== -/
section VXH
/-! vx_backW, vx_callVX, vx_callSX, vx_callVW, vx_runVW, vx_runVX, vx_runSX, vx_ofWH follow the same proofs as their sisters above (Free/Laws.lean, Shelf42/LK1.lean); vx_outP calls Shelf42/NT130.lean (outThrough). -/
section
variable {l : Launch} {R : Room} {p : Program} {e : Env} {below : List Frame} {s : State} {sargs : Array Value} {y : MethodName} {len W9 : Nat}
theorem vx_backW {ws : List Cond} {rm : Room} {Pc : Array Value → State → Prop} {Qc : Array Value → State → Outcome → State → Prop} {XC : String → State → State → Prop} {mc ms : Nat} {free : Addr → Prop} {bytes : ByteArray} {maxL : Nat} {ret : Option FieldType} {hh : List (Nat × Nat × Nat × Nat)}
    (hM : vx_Met l y ws rm Pc Qc XC mc ms free) (hblind : FrameBlind Pc) (hrc : rm.cells = mc) (hrs : rm.slots = ms)
    (hframes : rm.frames + 1 ≤ R.frames) (hlocals : W9 + (maxL + 11) + rm.locals ≤ R.locals)
    (hws : ∀ w ∈ ws, ∀ a' U, s.WarmedH U.vm → w.before a' U = true) (hcode : Cond.codeWith y bytes maxL ret hh ∈ ws) (hinit : ∀ a' U, s.WarmedH U.vm → (Cond.initialized y.cls).before a' U = true) :
    vx_Back l R p e below s sargs y len W9 (PreOf R mc ms Pc) (PostOf Qc mc ms free) (vx_Post XC mc ms free) := by
  intro m meth c A g ig mk a X hg hsize hdg hW hn hp
  have h1 : (headSpec ws rm).pre.before a A.U = true := atoms_intro fun w hw => hws w hw _ _ X.warmed
  have h2 : (Cond.codeWith y bytes maxL ret hh).before a A.U = true := hws _ hcode _ _ X.warmed
  have h3 : (Cond.initialized y.cls).before a A.U = true := hinit _ _ X.warmed
  have h4 : A.cells + (headSpec ws rm).room.cells ≤ R.cells := by rw [show (headSpec ws rm).room.cells = mc from hrc]; exact hp.1
  have h5 : A.slots + (headSpec ws rm).room.slots ≤ R.slots := by rw [show (headSpec ws rm).room.slots = ms from hrs]; exact hp.2.1
  have hPc : Pc a (A.U.calling g mk a) := hblind _ _ _ _ hp.2.2
  obtain ⟨U, Ls, c0, s0⟩ := A
  dsimp only [Pt.U, Pt.locs, Pt.cells, Pt.slots] at h1 h2 h3 h4 h5 X hn hPc ⊢
  obtain ⟨m9, methY, cY, hn9, hmY, hcY, -, hlY, -⟩ := Cond.codeWith_spec h2
  cases Option.some.inj (hn9.symm.trans hn)
  obtain ⟨kY, hkY, -⟩ := className_of_methodNamed hn
  have hinitY : kY.init = .initialized := Cond.initialized_spec (findClass_of_methodNamed hn) hkY h3
  have h : At U g.method c below := by rw [hg]; exact X.here
  have hlocals9 : W9 + (maxL + 11) + (headSpec ws rm).room.locals ≤ R.locals := hlocals
  have happ : (headSpec ws rm).appliesLoose y e.platform (U.calling g mk a) = true :=
    Spec.appliesLoose_calling (g := g) h hdg hn hkY hinitY
      (X.room_calling (g := g) (R' := (headSpec ws rm).room) hsize hmY hcY hframes (by rw [hlY]; omega) h4 h5) h1
  obtain ⟨mid, hmid⟩ := h.above
  have hfr : (U.setTop g).frames = (.java g :: mid) ++ below := by rw [State.frames_setTop' g h.top, hmid]; rfl
  obtain ⟨o, s₂, hsteps, -, hend, hq⟩ := Steps.callFree hM p X.admits X.cas X.clock (acts := []) hfr happ hPc trivial
  have hq' : vx_Q Qc XC mc ms free a (U.calling g mk a) o s₂ := hq
  rw [State.frames_setTop' g h.top] at hend
  obtain ⟨g₀, hg0⟩ := Option.isSome_iff_exists.mp h.top
  obtain ⟨r, hr⟩ := State.topJava?_eq_some.mp hg0
  have hr' : (({ U with heap := s₂.heap, slotsUsed := s₂.slotsUsed } : State).setVm s₂.vm).frames = .java g₀ :: r := hr
  rcases hq' with ⟨hqc, L, hfe, hL⟩ | ⟨q, rfl, E, ce, L, hx, hce, hcv, hcl, hW₂, hsm, hL⟩
  · obtain ⟨⟨v, rfl⟩, hW₂, e2, q2, q3, q4, q5, q6⟩ := id hfe
    have e3 : s₂ = ({ (U.calling g mk a).setFrames s₂.frames with heap := s₂.heap, slotsUsed := s₂.slotsUsed } : State).setVm s₂.vm := by
      have : s₂ = ({ s₂ with vm := (U.calling g mk a).vm } : State).setVm s₂.vm := rfl
      rw [e2] at this
      exact this
    obtain ⟨c₂, i₂, len₂, hc₂, hd₂, hf₂⟩ := hend
    have hW' : U.WarmedH s₂.vm := hW₂
    have hcc : c₂ = c := by
      have h1 : s₂.code? g.method = U.code? g.method := by
        rw [State.code?_eq, State.code?_eq, hW'.alike.method?]
      exact Option.some.inj (hc₂.symm.trans (h1.trans h.code))
    subst hcc
    have hlen : len₂ = len := by rw [hdg] at hd₂; cases hd₂; rfl
    subst hlen
    have hs₂ : s₂ = (({ U with heap := s₂.heap, slotsUsed := s₂.slotsUsed } : State).setVm s₂.vm).setTop { g with pc := g.pc + len₂, stack := v.toList ++ g.stack } := by
      refine e3.trans ?_
      rw [hf₂, State.calling_eq h.top, State.setFrames_setFrames, State.setTop_of_frames _ hr', hr]
      rfl
    have hsame : U.sameButNew ({ U with heap := s₂.heap, slotsUsed := s₂.slotsUsed } : State) L mc ms := by
      refine ⟨?_, q2, q3, q4, q5, q6⟩
      obtain ⟨t, ht, -⟩ := State.frames_cons hr
      show ({ U with heap := s₂.heap, slotsUsed := s₂.slotsUsed } : State) = { U.setFrames U.frames with heap := s₂.heap, slotsUsed := s₂.slotsUsed }
      rw [State.setFrames_self ht]
    subst hg
    refine Or.inl ⟨v, ⟨(({ U with heap := s₂.heap, slotsUsed := s₂.slotsUsed } : State).setVm s₂.vm), Ls ++ L, c0 + mc, s0 + ms⟩,
      ⟨X.admits, X.cas, X.clock, X.frames, X.room, X.hears, X.method, X.code, (X.here.setHeapUsed s₂.heap s₂.slotsUsed).setVm hW'.alike, X.tail, State.WarmedH.trans X.warmed hW', X.limits, X.bytes, X.same.trans (hsame.setVm s.vm)⟩,
      ⟨g, mk, s₂, L, rfl, rfl, hqc, rfl, hL, rfl, rfl⟩, ?_⟩
    show Steps p.tables e below _ ((({ U with heap := s₂.heap, slotsUsed := s₂.slotsUsed } : State).setVm s₂.vm).setTop { g with pc := g.pc + len₂, stack := v.toList ++ g.stack })
    rw [← hs₂]
    exact hsteps
  · obtain ⟨e2, q2, q3, q4, q5, q6⟩ := id hsm
    have e3 : s₂ = ({ (U.calling g mk a).setFrames s₂.frames with heap := s₂.heap, slotsUsed := s₂.slotsUsed } : State).setVm s₂.vm := by
      have : s₂ = ({ s₂ with vm := (U.calling g mk a).vm } : State).setVm s₂.vm := rfl
      rw [e2] at this
      exact this
    have hf₂ : s₂.frames = .throwing q :: .java g :: U.frames.tail := hend
    have hW' : U.WarmedH s₂.vm := hW₂
    have hs₂ : s₂ = ((({ U with heap := s₂.heap, slotsUsed := s₂.slotsUsed } : State).setVm s₂.vm).setTop g).pushFrame (.throwing q) := by
      refine e3.trans ?_
      rw [hf₂, State.calling_eq h.top, State.setFrames_setFrames, State.pushFrame, State.frames_setTop _ hr', State.setTop_of_frames _ hr', State.setFrames_setFrames, hr]
      rfl
    have hsame : U.sameButNew ({ U with heap := s₂.heap, slotsUsed := s₂.slotsUsed } : State) L mc ms := by
      refine ⟨?_, q2, q3, q4, q5, q6⟩
      obtain ⟨t, ht, -⟩ := State.frames_cons hr
      show ({ U with heap := s₂.heap, slotsUsed := s₂.slotsUsed } : State) = { U.setFrames U.frames with heap := s₂.heap, slotsUsed := s₂.slotsUsed }
      rw [State.setFrames_self ht]
    subst hg
    refine Or.inr ⟨q, ⟨(({ U with heap := s₂.heap, slotsUsed := s₂.slotsUsed } : State).setVm s₂.vm), Ls ++ L, c0 + mc, s0 + ms⟩,
      ⟨X.admits, X.cas, X.clock, X.frames, X.room, X.hears, X.method, X.code, (X.here.setHeapUsed s₂.heap s₂.slotsUsed).setVm hW'.alike, X.tail, State.WarmedH.trans X.warmed hW', X.limits, X.bytes, X.same.trans (hsame.setVm s.vm)⟩,
      ⟨g, mk, s₂, L, E, ce, rfl, rfl, hx, hce, hcv, hcl, rfl, hL, rfl, rfl⟩, ?_⟩
    show Steps p.tables e below _ (((({ U with heap := s₂.heap, slotsUsed := s₂.slotsUsed } : State).setVm s₂.vm).setTop g).pushFrame (.throwing q))
    rw [← hs₂]
    exact hsteps
end
variable {p : Program} {l : Launch} {e : Env} {R : Room} {s : State} {m : MethodId} {args : Array Value} {below : List Frame} {meth : Method} {c : Code} {T : State} {H : Heap} {locs : List Loc} {cells slots : Nat}
theorem vx_callVX (X : Stand p l e R s m args below meth c T locs cells slots) (hexec : p.tables.exec = Jvm.exec) {own C : String} {index : Nat} {y : MethodName} {bytes : ByteArray} {maxL : Nat} {ret : Option FieldType} {hh : List (Nat × Nat × Nat × Nat)}
    (hown : s.vm.findClass own = some m.cls) (hlink : (Cond.methodLink own index y).before args s = true) (hinst : (Cond.instanceMethod y).before args s = true) (hsel : (Cond.selects C y y).before args s = true)
    (hcode : (Cond.codeWith y bytes maxL ret hh).before args s = true) (hy : y.cls ≠ "java/lang/invoke/MethodHandle" ∧ y.cls ≠ "java/lang/invoke/VarHandle")
    {W9 : Nat} {Pre : Pt → Array Value → Prop} {Post : Pt → Array Value → Option Value → Pt → Prop} {PostX : Pt → Array Value → Addr → Pt → Prop} (hK : vx_Back l R p e below s args y 3 W9 Pre Post PostX)
    {b : Addr} {cellB : Cell} (hcell : T.heap[b]? = some cellB) (hobj : cellB.vm.isStatics = false) (hcls : s.vm.findClass C = some cellB.cls)
    {g : JFrame} (hg : g.method = m) (hsize : g.locals.size = c.maxLocals) {argsL rest : List Value} (hlen : ∀ sig, parseMethodDescriptor y.desc = some sig → argsL.length = sig.parameters.length)
    (hstack : g.stack = argsL.reverse ++ .ref b :: rest) (hW : 2 * g.monitorRoom + (rest.map fun v => v.category).sum ≤ W9) (hdg : decode c.code g.pc = .ok (.invokevirtual index, 3))
    (hpre : ∀ vm₁, s.WarmedH vm₁ → Pre ⟨T.setVm vm₁, locs, cells, slots⟩ (Value.ref b :: argsL).toArray) :
    (∃ (v : Option Value) (vm₁ : Vm) (B : Pt), s.WarmedH vm₁ ∧ Stand p l e R s m args below meth c B.U B.locs B.cells B.slots ∧ Post ⟨T.setVm vm₁, locs, cells, slots⟩ (Value.ref b :: argsL).toArray v B ∧
      ∀ target, Steps p.tables e below (B.U.setTop { g with pc := g.pc + 3, stack := v.toList ++ rest }) target → Steps p.tables e below (T.setTop g) target) ∨
    (∃ (q : Addr) (vm₁ : Vm) (B : Pt), s.WarmedH vm₁ ∧ Stand p l e R s m args below meth c B.U B.locs B.cells B.slots ∧ PostX ⟨T.setVm vm₁, locs, cells, slots⟩ (Value.ref b :: argsL).toArray q B ∧
      Steps p.tables e below (T.setTop g) ((B.U.setTop { g with stack := rest }).pushFrame (.throwing q))) := by
  obtain ⟨mk, methM, hnamed, hmethM, hstM, habM⟩ := Cond.instanceMethod_spec hinst
  obtain ⟨m8, methM', cM, hn8, hmethM', -, -, -, -, -, -, hsigM⟩ := Cond.codeWith_spec hcode
  cases Option.some.inj (hn8.symm.trans hnamed)
  cases hmethM.symm.trans hmethM'
  obtain ⟨c2, r2, m2, q1, q2, q3, q4, kP, hkP, hkPi⟩ := Cond.selects_spec hsel
  cases hcls.symm.trans q1
  cases (State.methodFound?_of_named hnamed hy).symm.trans q2
  cases hnamed.symm.trans q3
  have hselP : selectMethod e.platform s.vm cellB.cls mk = .method mk := by rw [Launch.admits_selectMethod X.admits]; exact q4
  obtain ⟨vm₁, X₁, hstep₁⟩ := X.invokevirtual hexec hown hlink hnamed hmethM hstM hkP hkPi hy (a := b) (cell := cellB) hcell
    (fun z h => by rw [h] at hobj; cases hobj) hselP hmethM habM hkP hkPi (g := g) hg (argsL := argsL) (rest := rest) (hlen _ hsigM) hstack hdg
  rcases hK m meth c ⟨T.setVm vm₁, locs, cells, slots⟩ { g with stack := rest } (.invokevirtual index) mk (Value.ref b :: argsL).toArray X₁ hg hsize hdg hW (X₁.named hnamed) (hpre vm₁ X₁.warmed) with ⟨v, B, X', hpost, hsteps⟩ | ⟨q, B, X', hpost, hsteps⟩
  · exact Or.inl ⟨v, vm₁, B, X₁.warmed, X', hpost, fun target h => hstep₁ _ fun acts => by rw [doInvoke_state]; exact hsteps.trans h⟩
  · exact Or.inr ⟨q, vm₁, B, X₁.warmed, X', hpost, hstep₁ _ fun acts => by rw [doInvoke_state]; exact hsteps⟩
theorem vx_callSX (X : Stand p l e R s m args below meth c T locs cells slots) (hexec : p.tables.exec = Jvm.exec) {own : String} {index : Nat} {y : MethodName} {bytes : ByteArray} {maxL : Nat} {ret : Option FieldType} {hh : List (Nat × Nat × Nat × Nat)}
    (hown : s.vm.findClass own = some m.cls) (hlink : (Cond.methodLink own index y).before args s = true) (hstat : (Cond.static y).before args s = true) (hinit : (Cond.initialized y.cls).before args s = true)
    (hcode : (Cond.codeWith y bytes maxL ret hh).before args s = true) (hy : y.cls ≠ "java/lang/invoke/MethodHandle" ∧ y.cls ≠ "java/lang/invoke/VarHandle")
    {W9 : Nat} {Pre : Pt → Array Value → Prop} {Post : Pt → Array Value → Option Value → Pt → Prop} {PostX : Pt → Array Value → Addr → Pt → Prop} (hK : vx_Back l R p e below s args y 3 W9 Pre Post PostX)
    {g : JFrame} (hg : g.method = m) (hsize : g.locals.size = c.maxLocals) {argsL rest : List Value} (hlen : ∀ sig, parseMethodDescriptor y.desc = some sig → argsL.length = sig.parameters.length)
    (hstack : g.stack = argsL.reverse ++ rest) (hW : 2 * g.monitorRoom + (rest.map fun v => v.category).sum ≤ W9) (hdg : decode c.code g.pc = .ok (.invokestatic index, 3))
    (hpre : ∀ vm₁, s.WarmedH vm₁ → Pre ⟨T.setVm vm₁, locs, cells, slots⟩ argsL.toArray) :
    (∃ (v : Option Value) (vm₁ : Vm) (B : Pt), s.WarmedH vm₁ ∧ Stand p l e R s m args below meth c B.U B.locs B.cells B.slots ∧ Post ⟨T.setVm vm₁, locs, cells, slots⟩ argsL.toArray v B ∧
      ∀ target, Steps p.tables e below (B.U.setTop { g with pc := g.pc + 3, stack := v.toList ++ rest }) target → Steps p.tables e below (T.setTop g) target) ∨
    (∃ (q : Addr) (vm₁ : Vm) (B : Pt), s.WarmedH vm₁ ∧ Stand p l e R s m args below meth c B.U B.locs B.cells B.slots ∧ PostX ⟨T.setVm vm₁, locs, cells, slots⟩ argsL.toArray q B ∧
      Steps p.tables e below (T.setTop g) ((B.U.setTop { g with stack := rest }).pushFrame (.throwing q))) := by
  obtain ⟨mk, methM, cM, hnamed, hmethM, -, -, -, -, -, -, hsigM⟩ := Cond.codeWith_spec hcode
  have hstatic : methM.isStatic = true := Cond.static_spec hnamed hmethM hstat
  obtain ⟨kP, hkP, -⟩ := className_of_methodNamed hnamed
  have hinitP : kP.init = .initialized := Cond.initialized_spec (findClass_of_methodNamed hnamed) hkP hinit
  obtain ⟨vm₁, X₁, hstep₁⟩ := X.invokestatic hexec hown hlink hnamed hmethM hstatic hkP hinitP hy (g := g) hg (argsL := argsL) (rest := rest) (hlen _ hsigM) hstack hdg
  rcases hK m meth c ⟨T.setVm vm₁, locs, cells, slots⟩ { g with stack := rest } (.invokestatic index) mk argsL.toArray X₁ hg hsize hdg hW (X₁.named hnamed) (hpre vm₁ X₁.warmed) with ⟨v, B, X', hpost, hsteps⟩ | ⟨q, B, X', hpost, hsteps⟩
  · exact Or.inl ⟨v, vm₁, B, X₁.warmed, X', hpost, fun target h => hstep₁ _ fun acts => by rw [doInvoke_state]; exact hsteps.trans h⟩
  · exact Or.inr ⟨q, vm₁, B, X₁.warmed, X', hpost, hstep₁ _ fun acts => by rw [doInvoke_state]; exact hsteps⟩
theorem vx_callVW (X : Stand p l e R s m args below meth c T locs cells slots) (hexec : p.tables.exec = Jvm.exec) {own C : String} {index : Nat} {y : MethodName} {bytes : ByteArray} {maxL : Nat} {ret : Option FieldType} {hh : List (Nat × Nat × Nat × Nat)}
    (hown : s.vm.findClass own = some m.cls) (hlink : (Cond.methodLink own index y).before args s = true) (hinst : (Cond.instanceMethod y).before args s = true) (hsel : (Cond.selects C y y).before args s = true)
    (hcode : (Cond.codeWith y bytes maxL ret hh).before args s = true) (hy : y.cls ≠ "java/lang/invoke/MethodHandle" ∧ y.cls ≠ "java/lang/invoke/VarHandle")
    {W9 : Nat} {Pre : Pt → Array Value → Prop} {Post : Pt → Array Value → Option Value → Pt → Prop} (hK : Back l R p e below s args y 3 W9 Pre Post)
    {b : Addr} {cellB : Cell} (hcell : T.heap[b]? = some cellB) (hobj : cellB.vm.isStatics = false) (hcls : s.vm.findClass C = some cellB.cls)
    {g : JFrame} (hg : g.method = m) (hsize : g.locals.size = c.maxLocals) {argsL rest : List Value} (hlen : ∀ sig, parseMethodDescriptor y.desc = some sig → argsL.length = sig.parameters.length)
    (hstack : g.stack = argsL.reverse ++ .ref b :: rest) (hW : 2 * g.monitorRoom + (rest.map fun v => v.category).sum ≤ W9) (hdg : decode c.code g.pc = .ok (.invokevirtual index, 3))
    (hpre : ∀ vm₁, s.WarmedH vm₁ → Pre ⟨T.setVm vm₁, locs, cells, slots⟩ (Value.ref b :: argsL).toArray) :
    ∃ (v : Option Value) (vm₁ : Vm) (B : Pt), s.WarmedH vm₁ ∧ Stand p l e R s m args below meth c B.U B.locs B.cells B.slots ∧ Post ⟨T.setVm vm₁, locs, cells, slots⟩ (Value.ref b :: argsL).toArray v B ∧
      ∀ target, Steps p.tables e below (B.U.setTop { g with pc := g.pc + 3, stack := v.toList ++ rest }) target → Steps p.tables e below (T.setTop g) target := by
  obtain ⟨mk, methM, hnamed, hmethM, hstM, habM⟩ := Cond.instanceMethod_spec hinst
  obtain ⟨m8, methM', cM, hn8, hmethM', -, -, -, -, -, -, hsigM⟩ := Cond.codeWith_spec hcode
  cases Option.some.inj (hn8.symm.trans hnamed)
  cases hmethM.symm.trans hmethM'
  obtain ⟨c2, r2, m2, q1, q2, q3, q4, kP, hkP, hkPi⟩ := Cond.selects_spec hsel
  cases hcls.symm.trans q1
  cases (State.methodFound?_of_named hnamed hy).symm.trans q2
  cases hnamed.symm.trans q3
  have hselP : selectMethod e.platform s.vm cellB.cls mk = .method mk := by rw [Launch.admits_selectMethod X.admits]; exact q4
  obtain ⟨vm₁, X₁, hstep₁⟩ := X.invokevirtual hexec hown hlink hnamed hmethM hstM hkP hkPi hy (a := b) (cell := cellB) hcell
    (fun z h => by rw [h] at hobj; cases hobj) hselP hmethM habM hkP hkPi (g := g) hg (argsL := argsL) (rest := rest) (hlen _ hsigM) hstack hdg
  obtain ⟨v, B, X', hpost, hsteps⟩ := hK m meth c ⟨T.setVm vm₁, locs, cells, slots⟩ { g with stack := rest } (.invokevirtual index) mk (Value.ref b :: argsL).toArray X₁ hg hsize hdg hW (X₁.named hnamed) (hpre vm₁ X₁.warmed)
  exact ⟨v, vm₁, B, X₁.warmed, X', hpost, fun target h => hstep₁ _ fun acts => by rw [doInvoke_state]; exact hsteps.trans h⟩
abbrev vx_CVW (R : Room) (s : State) (args : Array Value) (own C : String) (index : Nat) (y : MethodName) (bytes : ByteArray) (maxL : Nat) (ret : Option FieldType) (hh : List (Nat × Nat × Nat × Nat)) (ws : List Cond) (rm : Room) (mc ms n : Nat) : Prop :=
  (rm.cells = mc ∧ rm.slots = ms ∧ rm.frames + 1 ≤ R.frames ∧ 8 + (maxL + 11) + rm.locals ≤ R.locals ∧ (∀ w ∈ ws, ∀ (a' : Array Value) (U : State), s.WarmedH U.vm → w.before a' U = true) ∧ Cond.codeWith y bytes maxL ret hh ∈ ws) ∧
  (Cond.codeWith y bytes maxL ret hh).before args s = true ∧ (Cond.initialized y.cls).before args s = true ∧ (y.cls ≠ "java/lang/invoke/MethodHandle" ∧ y.cls ≠ "java/lang/invoke/VarHandle") ∧
  (∀ sig, parseMethodDescriptor y.desc = some sig → n = sig.parameters.length) ∧ (Cond.methodLink own index y).before args s = true ∧ (Cond.instanceMethod y).before args s = true ∧ (Cond.selects C y y).before args s = true
theorem vx_cwVW {own C : String} {index maxL mc ms : Nat} {y : MethodName} {bytes : ByteArray} {ret : Option FieldType} {hh : List (Nat × Nat × Nat × Nat)} {Ts ws ws' : List Cond} {rm : Room} (n : Nat) (ht : ∀ w ∈ Ts, w.before args s = true) (hT : GoodIn Ts (wsV own index C y ws)) (hw : ws = Cond.codeWith y bytes maxL ret hh :: ws') (hrc : rm.cells = mc) (hrs : rm.slots = ms)
    (hd : y.cls = C ∧ y.cls ≠ "java/lang/invoke/MethodHandle" ∧ y.cls ≠ "java/lang/invoke/VarHandle" ∧ (parseMethodDescriptor y.desc).map (fun d => d.parameters.length) = some n) (hR : rm.frames + 1 ≤ R.frames ∧ 8 + (maxL + 11) + rm.locals ≤ R.locals) :
    vx_CVW R s args own C index y bytes maxL ret hh ws rm mc ms n := by
  obtain ⟨hC, hd⟩ := hd
  subst hC
  have ok : ∀ w ∈ wsV own index y.cls y ws, w.before args s = true := fun w h => ht w (hT w h).1
  have hG : GoodIn Ts ws := fun w h => hT w (by unfold wsV; exact List.mem_append_right _ h)
  have hc : Cond.codeWith y bytes maxL ret hh ∈ ws := by rw [hw]; exact List.mem_cons_self
  refine ⟨⟨hrc, hrs, hR.1, hR.2, pay_in ht hG, hc⟩, ht _ (hG _ hc).1, ok _ (by simp [wsV]), ⟨hd.1, hd.2.1⟩, fun sig h => ?_, ok _ (by simp [wsV]), ok _ (by simp [wsV]), ok _ (by simp [wsV])⟩
  have h2 := hd.2.2
  rw [h] at h2
  exact (Option.some.inj h2).symm
theorem vx_runVW {y : MethodName} {bytes cc : ByteArray} {maxL nL mc ms n index : Nat} {ret : Option FieldType} {hh : List (Nat × Nat × Nat × Nat)} {ws : List Cond} {rm : Room} {Pc : Array Value → State → Prop} {Qc : Array Value → State → Outcome → State → Prop} {free : Addr → Prop} {Ts : List Cond} {own C : String} {b : Addr} {As rest : List Value} {g : JFrame}
    (S : CallFix p m c cc nL s args Ts own) (hM : Met l y ws rm Pc Qc mc ms free) (cw : vx_CVW R s args own C index y bytes maxL ret hh ws rm mc ms n) (hp : PreV s H C b Pc As)
    (hg : g.method = m) (hn : As.length = n) (hsize : g.locals.size = nL) (hstack : g.stack = As.reverse ++ .ref b :: rest) (hW : 2 * g.monitorRoom + (rest.map fun v => v.category).sum ≤ 8) (hdg : decode cc g.pc = .ok (.invokevirtual index, 3)) (hf : cells + mc ≤ R.cells ∧ slots + ms ≤ R.slots) :
    va_Run p l e R s m args below meth c H locs cells slots mc ms g rest (Qc (Value.ref b :: As).toArray) free := by
  obtain ⟨⟨hrc, hrs, hfr, hlo, hws, hcw⟩, hcode, hini, hy, hlen, hl, hin, hse⟩ := cw
  have hK : Back l R p e below s args y 3 8 (PreOf R mc ms Pc) (PostOf Qc mc ms free) := va_backW (hh := hh) (bytes := bytes) (maxL := maxL) (ret := ret) hM hp.1 hrc hrs hfr hlo hws hcw (fun a' U hW => word_at hW (Or.inl (by first | rfl | simp [Cond.onTables, Cond.keeps, Cond.steady])) hini)
  obtain ⟨hx, hb, hml, ho, -⟩ := S
  obtain ⟨-, ⟨cellB, hcB, hoB, hclB⟩, hPc⟩ := hp
  intro T hT X
  obtain ⟨v, vm₁, ⟨U', l2, c2, s2⟩, hW₁, X', ⟨g', mk, t, L, e1, e2, hq, h1, hL, h2, h3⟩, st⟩ := vx_callVW X hx (C := C) (hh := hh) (bytes := bytes) (maxL := maxL) (ret := ret) ho hl hin hse hcode hy hK (by rw [hT]; exact hcB) hoB hclB hg (hsize.trans hml.symm) (argsL := As) (rest := rest) (fun sig h => hn.trans (hlen sig h)) hstack hW (by rw [hb]; exact hdg)
    (fun vm₁ hW₁ => ⟨hf.1, hf.2, hPc (T.setVm vm₁) hT hW₁⟩)
  dsimp only [Pt.U, Pt.locs, Pt.cells, Pt.slots] at X' e1 e2 h1 h2 h3 st
  subst h1; subst h2; subst h3
  exact ⟨v, (T.setVm vm₁).calling g' mk (Value.ref b :: As).toArray, t, U', L, hT, X', hL, e1, e2, hq, st⟩
section
variable {y : MethodName} {bytes cc : ByteArray} {maxL nL mc ms n index : Nat} {ret : Option FieldType} {ws : List Cond} {rm : Room} {Pc : Array Value → State → Prop} {Qc : Array Value → State → Outcome → State → Prop} {XC : String → State → State → Prop} {free : Addr → Prop} {Ts : List Cond} {own C : String} {b : Addr} {As rest : List Value} {g : JFrame}
theorem vx_runVX {hh : List (Nat × Nat × Nat × Nat)} (S : CallFix p m c cc nL s args Ts own) (hM : vx_Met l y ws rm Pc Qc XC mc ms free) (cw : vx_CVW R s args own C index y bytes maxL ret hh ws rm mc ms n) (hp : PreV s H C b Pc As)
    (hg : g.method = m) (hn : As.length = n) (hsize : g.locals.size = nL) (hstack : g.stack = As.reverse ++ .ref b :: rest) (hW : 2 * g.monitorRoom + (rest.map fun v => v.category).sum ≤ 8) (hdg : decode cc g.pc = .ok (.invokevirtual index, 3)) (hf : cells + mc ≤ R.cells ∧ slots + ms ≤ R.slots) :
    vx_Run p l e R s m args below meth c H locs cells slots mc ms g rest (Qc (Value.ref b :: As).toArray) XC free := by
  obtain ⟨⟨hrc, hrs, hfr, hlo, hws, hcw⟩, hcode, hini, hy, hlen, hl, hin, hse⟩ := cw
  have hK : vx_Back l R p e below s args y 3 8 (PreOf R mc ms Pc) (PostOf Qc mc ms free) (vx_Post XC mc ms free) := vx_backW (hh := hh) (bytes := bytes) (maxL := maxL) (ret := ret) hM hp.1 hrc hrs hfr hlo hws hcw (fun a' U hW => word_at hW (Or.inl (by first | rfl | simp [Cond.onTables, Cond.keeps, Cond.steady])) hini)
  obtain ⟨hx, hb, hml, ho, -⟩ := S
  obtain ⟨-, ⟨cellB, hcB, hoB, hclB⟩, hPc⟩ := hp
  intro T hT X
  rcases vx_callVX X hx (C := C) (hh := hh) (bytes := bytes) (maxL := maxL) (ret := ret) ho hl hin hse hcode hy hK (by rw [hT]; exact hcB) hoB hclB hg (hsize.trans hml.symm) (argsL := As) (rest := rest) (fun sig h => hn.trans (hlen sig h)) hstack hW (by rw [hb]; exact hdg)
    (fun vm₁ hW₁ => ⟨hf.1, hf.2, hPc (T.setVm vm₁) hT hW₁⟩) with ⟨v, vm₁, ⟨U', l2, c2, s2⟩, hW₁, X', ⟨g', mk, t, L, e1, e2, hq, h1, hL, h2, h3⟩, st⟩ | ⟨q, vm₁, ⟨U', l2, c2, s2⟩, hW₁, X', ⟨g', mk, t, L, E, ce, e1, e2, hq, hce, hcv, hcl, h1, hL, h2, h3⟩, st⟩
  · dsimp only [Pt.U, Pt.locs, Pt.cells, Pt.slots] at X' e1 e2 h1 h2 h3 st
    subst h1; subst h2; subst h3
    exact Or.inl ⟨v, (T.setVm vm₁).calling g' mk (Value.ref b :: As).toArray, t, U', L, hT, X', hL, e1, e2, hq, st⟩
  · dsimp only [Pt.U, Pt.locs, Pt.cells, Pt.slots] at X' e1 e2 h1 h2 h3 st hcl
    subst h1; subst h2; subst h3
    exact Or.inr ⟨q, (T.setVm vm₁).calling g' mk (Value.ref b :: As).toArray, t, U', L, E, ce, hT, X', hL, e1, e2, hq, hce, hcv, vx_cls hW₁ hcl, st⟩
theorem vx_runSX {hh : List (Nat × Nat × Nat × Nat)} (S : CallFix p m c cc nL s args Ts own) (hM : vx_Met l y ws rm Pc Qc XC mc ms free) (cw : vx_CSW R s args own index y bytes maxL ret hh ws rm mc ms n) (hp : PreS s H Pc As)
    (hg : g.method = m) (hn : As.length = n) (hsize : g.locals.size = nL) (hstack : g.stack = As.reverse ++ rest) (hW : 2 * g.monitorRoom + (rest.map fun v => v.category).sum ≤ 8) (hdg : decode cc g.pc = .ok (.invokestatic index, 3)) (hf : cells + mc ≤ R.cells ∧ slots + ms ≤ R.slots) :
    vx_Run p l e R s m args below meth c H locs cells slots mc ms g rest (Qc As.toArray) XC free := by
  obtain ⟨⟨hrc, hrs, hfr, hlo, hws, hcw⟩, hcode, hini, hy, hlen, hl, hstt⟩ := cw
  have hK : vx_Back l R p e below s args y 3 8 (PreOf R mc ms Pc) (PostOf Qc mc ms free) (vx_Post XC mc ms free) := vx_backW (hh := hh) (bytes := bytes) (maxL := maxL) (ret := ret) hM hp.1 hrc hrs hfr hlo hws hcw (fun a' U hW => word_at hW (Or.inl (by first | rfl | simp [Cond.onTables, Cond.keeps, Cond.steady])) hini)
  obtain ⟨hx, hb, hml, ho, -⟩ := S
  intro T hT X
  rcases vx_callSX X hx (hh := hh) (bytes := bytes) (maxL := maxL) (ret := ret) ho hl hstt hini hcode hy hK hg (hsize.trans hml.symm) (argsL := As) (rest := rest) (fun sig h => hn.trans (hlen sig h)) hstack hW (by rw [hb]; exact hdg)
    (fun vm₁ hW₁ => ⟨hf.1, hf.2, hp.2 (T.setVm vm₁) hT hW₁⟩) with ⟨v, vm₁, ⟨U', l2, c2, s2⟩, hW₁, X', ⟨g', mk, t, L, e1, e2, hq, h1, hL, h2, h3⟩, st⟩ | ⟨q, vm₁, ⟨U', l2, c2, s2⟩, hW₁, X', ⟨g', mk, t, L, E, ce, e1, e2, hq, hce, hcv, hcl, h1, hL, h2, h3⟩, st⟩
  · dsimp only [Pt.U, Pt.locs, Pt.cells, Pt.slots] at X' e1 e2 h1 h2 h3 st
    subst h1; subst h2; subst h3
    exact Or.inl ⟨v, (T.setVm vm₁).calling g' mk As.toArray, t, U', L, hT, X', hL, e1, e2, hq, st⟩
  · dsimp only [Pt.U, Pt.locs, Pt.cells, Pt.slots] at X' e1 e2 h1 h2 h3 st hcl
    subst h1; subst h2; subst h3
    exact Or.inr ⟨q, (T.setVm vm₁).calling g' mk As.toArray, t, U', L, E, ce, hT, X', hL, e1, e2, hq, hce, hcv, vx_cls hW₁ hcl, st⟩
end
end VXH
theorem vx_ofWH {l : Launch} {y : MethodName} {ws ws' : List Cond} {rm : Room} {Pc : Array Value → State → Prop} {Qc : Array Value → State → Outcome → State → Prop} {XC : String → State → State → Prop} {mc ms : Nat} {free : Addr → Prop} {cc : ByteArray} {maxL : Nat} {ret : Option FieldType} {hh : List (Nat × Nat × Nat × Nat)}
    (hy : plainName y.cls = true) (hw : ws = Cond.codeWith y cc maxL ret hh :: ws')
    (body : ∀ p e s m args below meth c s₁, BodyLoose p l y (headSpec ws rm) cc maxL ret e s m args below meth c s₁ → c.maxLocals = maxL → Pc args s →
      W p l e (headSpec ws rm).room s m args below meth c s.heap [] 0 0 (vx_MQ below Qc XC args s mc ms free) (entryFrame m args maxL)) : vx_Met l y ws rm Pc Qc XC mc ms free := by
  refine MetFree.of_bodyS (code := cc) (maxLocals := maxL) (ret := ret) hy ?_ ?_
  · intro args s m h hn
    obtain ⟨m9, meth, c, hn9, h1, h2, h3, h4, -, h5, h6, -⟩ := Cond.codeWith_spec (atoms_spec (ws := ws) h _ (by rw [hw]; exact List.mem_cons_self))
    cases hn.symm.trans hn9
    exact ⟨meth, c, h1, h2, h3, h4, h5, h6⟩
  · intro p e s m args below meth c s₁ B hml hP _
    have hh0 : s₁.heap = s.heap := by rw [B.state]; rfl
    obtain ⟨t, a1, o, b1, b2, b3⟩ := body p e s m args below meth c s₁ B hml hP s₁ hh0 (Stand.of_body B)
    exact ⟨t, o, a1, b1, b2, b3⟩
/-! ===== END ===== -/
end
section
def RX0 : String := "TelegraphDesk$CodeBook"
def TX0 : u_T := fun k => match k with
  | 0 => ("TelegraphDesk$CodeBook", "types", "[I", true)
  | 1 => ("TelegraphDesk$CodeBook", "lengths", "[I", true)
  | _ => ("TelegraphDesk$CodeBook", "count", "I", false)
def tyX0 : Nat → FieldType := fun k => match k with
  | 0 => .array .int
  | 1 => .array .int
  | _ => .int
abbrev wsX00 : List Cond := u_ws RX0 TX0 3
theorem nmX0 : ∀ a, a < 3 → ∀ b, b < 3 → a ≠ b → (TX0 a).2.1 ≠ (TX0 b).2.1 := by decide +kernel
theorem tyX0_ok : ∀ k, k < 3 → parseFieldDescriptor (TX0 k).2.2.1 = some (tyX0 k) := by decide +kernel
abbrev cX0_init : ByteArray := prog_2_method_1_code
def yX0_init : MethodName := ⟨RX0, "<init>", "()V"⟩
abbrev cX0_size : ByteArray := prog_2_method_2_code
def yX0_size : MethodName := ⟨RX0, "size", "()I"⟩
abbrev cX0_isFull : ByteArray := prog_2_method_3_code
def yX0_isFull : MethodName := ⟨RX0, "isFull", "()Z"⟩
abbrev cX0_has : ByteArray := prog_2_method_4_code
def yX0_has : MethodName := ⟨RX0, "has", "(I)Z"⟩
abbrev cX0_typeIn : ByteArray := prog_2_method_5_code
def yX0_typeIn : MethodName := ⟨RX0, "typeIn", "(II)I"⟩
abbrev cX0_wordsIn : ByteArray := prog_2_method_6_code
def yX0_wordsIn : MethodName := ⟨RX0, "wordsIn", "(I)I"⟩
abbrev cX0_holds : ByteArray := prog_2_method_7_code
def yX0_holds : MethodName := ⟨RX0, "holds", "(IIII)Z"⟩
abbrev cX0_append : ByteArray := prog_2_method_8_code
def yX0_append : MethodName := ⟨RX0, "append", "(IIII)V"⟩
abbrev cX0_remove : ByteArray := prog_2_method_9_code
def yX0_remove : MethodName := ⟨RX0, "remove", "(I)V"⟩
def RX1 : String := "TelegraphDesk$Message"
def TX1 : u_T := fun k => match k with
  | 0 => ("TelegraphDesk$Message", "types", "[I", true)
  | _ => ("TelegraphDesk$Message", "count", "I", false)
def tyX1 : Nat → FieldType := fun k => match k with
  | 0 => .array .int
  | _ => .int
abbrev wsX10 : List Cond := u_ws RX1 TX1 2
theorem nmX1 : ∀ a, a < 2 → ∀ b, b < 2 → a ≠ b → (TX1 a).2.1 ≠ (TX1 b).2.1 := by decide +kernel
theorem tyX1_ok : ∀ k, k < 2 → parseFieldDescriptor (TX1 k).2.2.1 = some (tyX1 k) := by decide +kernel
abbrev cX1_init : ByteArray := prog_3_method_1_code
def yX1_init : MethodName := ⟨RX1, "<init>", "()V"⟩
abbrev cX1_size : ByteArray := prog_3_method_2_code
def yX1_size : MethodName := ⟨RX1, "size", "()I"⟩
abbrev cX1_isFull : ByteArray := prog_3_method_3_code
def yX1_isFull : MethodName := ⟨RX1, "isFull", "()Z"⟩
abbrev cX1_has : ByteArray := prog_3_method_4_code
def yX1_has : MethodName := ⟨RX1, "has", "(I)Z"⟩
abbrev cX1_typeAt : ByteArray := prog_3_method_5_code
def yX1_typeAt : MethodName := ⟨RX1, "typeAt", "(I)I"⟩
abbrev cX1_countOf : ByteArray := prog_3_method_6_code
def yX1_countOf : MethodName := ⟨RX1, "countOf", "(I)I"⟩
abbrev cX1_countOfAll : ByteArray := prog_3_method_7_code
def yX1_countOfAll : MethodName := ⟨RX1, "countOfAll", "()I"⟩
abbrev cX1_hasSameWords : ByteArray := prog_3_method_8_code
def yX1_hasSameWords : MethodName := ⟨RX1, "hasSameWords", "(III)Z"⟩
abbrev cX1_hasWordsOf : ByteArray := prog_3_method_9_code
def yX1_hasWordsOf : MethodName := ⟨RX1, "hasWordsOf", "(LTelegraphDesk$CodeBook;II)Z"⟩
abbrev cX1_append : ByteArray := prog_3_method_10_code
def yX1_append : MethodName := ⟨RX1, "append", "(I)V"⟩
abbrev cX1_removeLast : ByteArray := prog_3_method_11_code
def yX1_removeLast : MethodName := ⟨RX1, "removeLast", "()V"⟩
abbrev cX1_removeAll : ByteArray := prog_3_method_12_code
def yX1_removeAll : MethodName := ⟨RX1, "removeAll", "()V"⟩
def RX2 : String := "TelegraphDesk$Parting"
def TX2 : u_T := fun k => match k with
  | 0 => ("TelegraphDesk$Parting", "fewest", "[I", true)
  | 1 => ("TelegraphDesk$Parting", "lengths", "[I", true)
  | 2 => ("TelegraphDesk$Parting", "codes", "[I", true)
  | 3 => ("TelegraphDesk$Parting", "starts", "[I", true)
  | _ => ("TelegraphDesk$Parting", "count", "I", false)
def tyX2 : Nat → FieldType := fun k => match k with
  | 0 => .array .int
  | 1 => .array .int
  | 2 => .array .int
  | 3 => .array .int
  | _ => .int
abbrev wsX20 : List Cond := u_ws RX2 TX2 5
theorem nmX2 : ∀ a, a < 5 → ∀ b, b < 5 → a ≠ b → (TX2 a).2.1 ≠ (TX2 b).2.1 := by decide +kernel
theorem tyX2_ok : ∀ k, k < 5 → parseFieldDescriptor (TX2 k).2.2.1 = some (tyX2 k) := by decide +kernel
abbrev cX2_init : ByteArray := prog_4_method_1_code
def yX2_init : MethodName := ⟨RX2, "<init>", "()V"⟩
abbrev cX2_size : ByteArray := prog_4_method_2_code
def yX2_size : MethodName := ⟨RX2, "size", "()I"⟩
abbrev cX2_has : ByteArray := prog_4_method_3_code
def yX2_has : MethodName := ⟨RX2, "has", "(I)Z"⟩
abbrev cX2_startAt : ByteArray := prog_4_method_4_code
def yX2_startAt : MethodName := ⟨RX2, "startAt", "(I)I"⟩
abbrev cX2_codeAt : ByteArray := prog_4_method_5_code
def yX2_codeAt : MethodName := ⟨RX2, "codeAt", "(I)I"⟩
abbrev cX2_groupsWith : ByteArray := prog_4_method_6_code
def yX2_groupsWith : MethodName := ⟨RX2, "groupsWith", "(I)I"⟩
abbrev cX2_partAsIs : ByteArray := prog_4_method_7_code
def yX2_partAsIs : MethodName := ⟨RX2, "partAsIs", "(LTelegraphDesk$Message;LTelegraphDesk$CodeBook;)V"⟩
abbrev cX2_partWithout : ByteArray := prog_4_method_8_code
def yX2_partWithout : MethodName := ⟨RX2, "partWithout", "(LTelegraphDesk$Message;LTelegraphDesk$CodeBook;I)V"⟩
abbrev cX2_partWithNew : ByteArray := prog_4_method_9_code
def yX2_partWithNew : MethodName := ⟨RX2, "partWithNew", "(LTelegraphDesk$Message;LTelegraphDesk$CodeBook;II)V"⟩
abbrev cX2_part : ByteArray := prog_4_method_10_code
def yX2_part : MethodName := ⟨RX2, "part", "(LTelegraphDesk$Message;LTelegraphDesk$CodeBook;III)V"⟩
abbrev cX2_takeWord : ByteArray := prog_4_method_11_code
def yX2_takeWord : MethodName := ⟨RX2, "takeWord", "(I)V"⟩
abbrev cX2_takeIfBetter : ByteArray := prog_4_method_12_code
def yX2_takeIfBetter : MethodName := ⟨RX2, "takeIfBetter", "(III)V"⟩
abbrev cX2_listStarts : ByteArray := prog_4_method_13_code
def yX2_listStarts : MethodName := ⟨RX2, "listStarts", "(I)V"⟩
def RX3 : String := "TelegraphDesk$Passage"
def TX3 : u_T := fun k => match k with
  | 0 => ("TelegraphDesk$Passage", "sent", "I", false)
  | 1 => ("TelegraphDesk$Passage", "garbledFirst", "I", false)
  | 2 => ("TelegraphDesk$Passage", "asked", "I", false)
  | _ => ("TelegraphDesk$Passage", "gone", "I", false)
def tyX3 : Nat → FieldType := fun k => match k with
  | 0 => .int
  | 1 => .int
  | 2 => .int
  | _ => .int
abbrev wsX30 : List Cond := u_ws RX3 TX3 4
theorem nmX3 : ∀ a, a < 4 → ∀ b, b < 4 → a ≠ b → (TX3 a).2.1 ≠ (TX3 b).2.1 := by decide +kernel
theorem tyX3_ok : ∀ k, k < 4 → parseFieldDescriptor (TX3 k).2.2.1 = some (tyX3 k) := by decide +kernel
abbrev cX3_init : ByteArray := prog_5_method_1_code
def yX3_init : MethodName := ⟨RX3, "<init>", "()V"⟩
abbrev cX3_run : ByteArray := prog_5_method_2_code
def yX3_run : MethodName := ⟨RX3, "run", "(III)V"⟩
abbrev cX3_sentAtEnd : ByteArray := prog_5_method_3_code
def yX3_sentAtEnd : MethodName := ⟨RX3, "sentAtEnd", "()I"⟩
abbrev cX3_garbledAtFirst : ByteArray := prog_5_method_4_code
def yX3_garbledAtFirst : MethodName := ⟨RX3, "garbledAtFirst", "()I"⟩
abbrev cX3_repeatsAsked : ByteArray := prog_5_method_5_code
def yX3_repeatsAsked : MethodName := ⟨RX3, "repeatsAsked", "()I"⟩
abbrev cX3_groupsLost : ByteArray := prog_5_method_6_code
def yX3_groupsLost : MethodName := ⟨RX3, "groupsLost", "()I"⟩
abbrev cX3_pass : ByteArray := prog_5_method_7_code
def yX3_pass : MethodName := ⟨RX3, "pass", "(I)V"⟩
abbrev cX3_isNextGarbled : ByteArray := prog_5_method_8_code
def yX3_isNextGarbled : MethodName := ⟨RX3, "isNextGarbled", "(I)Z"⟩
def RX4 : String := "TelegraphDesk"
def TX4 : u_T := fun k => match k with
  | 0 => ("TelegraphDesk", "book", "LTelegraphDesk$CodeBook;", true)
  | 1 => ("TelegraphDesk", "message", "LTelegraphDesk$Message;", true)
  | 2 => ("TelegraphDesk", "parting", "LTelegraphDesk$Parting;", true)
  | 3 => ("TelegraphDesk", "supposed", "LTelegraphDesk$Parting;", true)
  | 4 => ("TelegraphDesk", "passage", "LTelegraphDesk$Passage;", true)
  | 5 => ("TelegraphDesk", "quality", "I", false)
  | 6 => ("TelegraphDesk", "sentGroups", "I", false)
  | 7 => ("TelegraphDesk", "repeats", "I", false)
  | 8 => ("TelegraphDesk", "lost", "I", false)
  | _ => ("TelegraphDesk", "earned", "I", false)
def tyX4 : Nat → FieldType := fun k => match k with
  | 0 => .object "TelegraphDesk$CodeBook"
  | 1 => .object "TelegraphDesk$Message"
  | 2 => .object "TelegraphDesk$Parting"
  | 3 => .object "TelegraphDesk$Parting"
  | 4 => .object "TelegraphDesk$Passage"
  | 5 => .int
  | 6 => .int
  | 7 => .int
  | 8 => .int
  | _ => .int
abbrev wsX40 : List Cond := u_ws RX4 TX4 10
theorem nmX4 : ∀ a, a < 10 → ∀ b, b < 10 → a ≠ b → (TX4 a).2.1 ≠ (TX4 b).2.1 := by decide +kernel
theorem tyX4_ok : ∀ k, k < 10 → parseFieldDescriptor (TX4 k).2.2.1 = some (tyX4 k) := by decide +kernel
abbrev cX4_init : ByteArray := prog_1_method_1_code
def yX4_init : MethodName := ⟨RX4, "<init>", "()V"⟩
abbrev cX4_addCode : ByteArray := prog_1_method_2_code
def yX4_addCode : MethodName := ⟨RX4, "addCode", "(IIII)I"⟩
abbrev cX4_dropCode : ByteArray := prog_1_method_3_code
def yX4_dropCode : MethodName := ⟨RX4, "dropCode", "(I)I"⟩
abbrev cX4_codes : ByteArray := prog_1_method_4_code
def yX4_codes : MethodName := ⟨RX4, "codes", "()I"⟩
abbrev cX4_lengthOf : ByteArray := prog_1_method_5_code
def yX4_lengthOf : MethodName := ⟨RX4, "lengthOf", "(I)I"⟩
abbrev cX4_write : ByteArray := prog_1_method_6_code
def yX4_write : MethodName := ⟨RX4, "write", "(I)I"⟩
abbrev cX4_strike : ByteArray := prog_1_method_7_code
def yX4_strike : MethodName := ⟨RX4, "strike", "()I"⟩
abbrev cX4_clear : ByteArray := prog_1_method_8_code
def yX4_clear : MethodName := ⟨RX4, "clear", "()I"⟩
abbrev cX4_words : ByteArray := prog_1_method_9_code
def yX4_words : MethodName := ⟨RX4, "words", "()I"⟩
abbrev cX4_typeOf : ByteArray := prog_1_method_10_code
def yX4_typeOf : MethodName := ⟨RX4, "typeOf", "(I)I"⟩
abbrev cX4_groups : ByteArray := prog_1_method_11_code
def yX4_groups : MethodName := ⟨RX4, "groups", "()I"⟩
abbrev cX4_codeOf : ByteArray := prog_1_method_12_code
def yX4_codeOf : MethodName := ⟨RX4, "codeOf", "(I)I"⟩
abbrev cX4_startOf : ByteArray := prog_1_method_13_code
def yX4_startOf : MethodName := ⟨RX4, "startOf", "(I)I"⟩
abbrev cX4_usesOf : ByteArray := prog_1_method_14_code
def yX4_usesOf : MethodName := ⟨RX4, "usesOf", "(I)I"⟩
abbrev cX4_counted : ByteArray := prog_1_method_15_code
def yX4_counted : MethodName := ⟨RX4, "counted", "()I"⟩
abbrev cX4_cost : ByteArray := prog_1_method_16_code
def yX4_cost : MethodName := ⟨RX4, "cost", "()I"⟩
abbrev cX4_saved : ByteArray := prog_1_method_17_code
def yX4_saved : MethodName := ⟨RX4, "saved", "()I"⟩
abbrev cX4_setQuality : ByteArray := prog_1_method_18_code
def yX4_setQuality : MethodName := ⟨RX4, "setQuality", "(I)I"⟩
abbrev cX4_send : ByteArray := prog_1_method_19_code
def yX4_send : MethodName := ⟨RX4, "send", "()I"⟩
abbrev cX4_sentGroups : ByteArray := prog_1_method_20_code
def yX4_sentGroups : MethodName := ⟨RX4, "sentGroups", "()I"⟩
abbrev cX4_repeats : ByteArray := prog_1_method_21_code
def yX4_repeats : MethodName := ⟨RX4, "repeats", "()I"⟩
abbrev cX4_lost : ByteArray := prog_1_method_22_code
def yX4_lost : MethodName := ⟨RX4, "lost", "()I"⟩
abbrev cX4_earned : ByteArray := prog_1_method_23_code
def yX4_earned : MethodName := ⟨RX4, "earned", "()I"⟩
abbrev cX4_untilGarbled : ByteArray := prog_1_method_24_code
def yX4_untilGarbled : MethodName := ⟨RX4, "untilGarbled", "()I"⟩
abbrev cX4_wouldBeGarbled : ByteArray := prog_1_method_25_code
def yX4_wouldBeGarbled : MethodName := ⟨RX4, "wouldBeGarbled", "()I"⟩
abbrev cX4_repeatsIfSent : ByteArray := prog_1_method_26_code
def yX4_repeatsIfSent : MethodName := ⟨RX4, "repeatsIfSent", "()I"⟩
abbrev cX4_qualityWanted : ByteArray := prog_1_method_27_code
def yX4_qualityWanted : MethodName := ⟨RX4, "qualityWanted", "()I"⟩
abbrev cX4_uselessCode : ByteArray := prog_1_method_28_code
def yX4_uselessCode : MethodName := ⟨RX4, "uselessCode", "()I"⟩
abbrev cX4_bestNewCode : ByteArray := prog_1_method_29_code
def yX4_bestNewCode : MethodName := ⟨RX4, "bestNewCode", "(I)I"⟩
abbrev cX4_meanLength : ByteArray := prog_1_method_30_code
def yX4_meanLength : MethodName := ⟨RX4, "meanLength", "()D"⟩
abbrev cX4_digest : ByteArray := prog_1_method_31_code
def yX4_digest : MethodName := ⟨RX4, "digest", "()J"⟩
abbrev cX4_withCodes : ByteArray := prog_1_method_32_code
def yX4_withCodes : MethodName := ⟨RX4, "withCodes", "(J)J"⟩
abbrev cX4_withWords : ByteArray := prog_1_method_33_code
def yX4_withWords : MethodName := ⟨RX4, "withWords", "(J)J"⟩
abbrev cX4_withGroups : ByteArray := prog_1_method_34_code
def yX4_withGroups : MethodName := ⟨RX4, "withGroups", "(J)J"⟩
abbrev cX4_withNumber : ByteArray := prog_1_method_35_code
def yX4_withNumber : MethodName := ⟨RX4, "withNumber", "(JJ)J"⟩
abbrev cX4_bestStart : ByteArray := prog_1_method_36_code
def yX4_bestStart : MethodName := ⟨RX4, "bestStart", "(I)I"⟩
abbrev cX4_costOf : ByteArray := prog_1_method_37_code
def yX4_costOf : MethodName := ⟨RX4, "costOf", "(I)I"⟩
abbrev cX4_shorten : ByteArray := prog_1_method_38_code
def yX4_shorten : MethodName := ⟨RX4, "shorten", "()V"⟩
abbrev cX4_isType : ByteArray := prog_1_method_39_code
def yX4_isType : MethodName := ⟨RX4, "isType", "(I)Z"⟩
abbrev cX4_isTypeOrNone : ByteArray := prog_1_method_40_code
def yX4_isTypeOrNone : MethodName := ⟨RX4, "isTypeOrNone", "(I)Z"⟩
abbrev cX4_isGarbled : ByteArray := prog_1_method_41_code
def yX4_isGarbled : MethodName := ⟨RX4, "isGarbled", "(II)Z"⟩
def RX5 : String := "TelegraphDeskModel"
def TX5 : u_T := fun k => match k with
  | 0 => ("TelegraphDeskModel", "thrown", "I", false)
  | 1 => ("TelegraphDeskModel", "codes", "I", false)
  | 2 => ("TelegraphDeskModel", "key", "[I", true)
  | 3 => ("TelegraphDeskModel", "length", "[I", true)
  | 4 => ("TelegraphDeskModel", "words", "I", false)
  | 5 => ("TelegraphDeskModel", "type", "[I", true)
  | 6 => ("TelegraphDeskModel", "quality", "I", false)
  | 7 => ("TelegraphDeskModel", "sent", "I", false)
  | 8 => ("TelegraphDeskModel", "repeats", "I", false)
  | 9 => ("TelegraphDeskModel", "lost", "I", false)
  | 10 => ("TelegraphDeskModel", "earned", "I", false)
  | 11 => ("TelegraphDeskModel", "fewest", "[I", true)
  | 12 => ("TelegraphDeskModel", "first", "[I", true)
  | 13 => ("TelegraphDeskModel", "goes", "I", false)
  | 14 => ("TelegraphDeskModel", "asked", "I", false)
  | 15 => ("TelegraphDeskModel", "gone", "I", false)
  | _ => ("TelegraphDeskModel", "garbledFirst", "I", false)
def tyX5 : Nat → FieldType := fun k => match k with
  | 0 => .int
  | 1 => .int
  | 2 => .array .int
  | 3 => .array .int
  | 4 => .int
  | 5 => .array .int
  | 6 => .int
  | 7 => .int
  | 8 => .int
  | 9 => .int
  | 10 => .int
  | 11 => .array .int
  | 12 => .array .int
  | 13 => .int
  | 14 => .int
  | 15 => .int
  | _ => .int
abbrev wsX50 : List Cond := u_ws RX5 TX5 17
theorem nmX5 : ∀ a, a < 17 → ∀ b, b < 17 → a ≠ b → (TX5 a).2.1 ≠ (TX5 b).2.1 := by decide +kernel
theorem tyX5_ok : ∀ k, k < 17 → parseFieldDescriptor (TX5 k).2.2.1 = some (tyX5 k) := by decide +kernel
abbrev cX5_init : ByteArray := prog_7_method_1_code
def yX5_init : MethodName := ⟨RX5, "<init>", "()V"⟩
abbrev cX5_thrown : ByteArray := prog_7_method_2_code
def yX5_thrown : MethodName := ⟨RX5, "thrown", "()I"⟩
abbrev cX5_fail : ByteArray := prog_7_method_3_code
def yX5_fail : MethodName := ⟨RX5, "fail", "(I)I"⟩
abbrev cX5_told : ByteArray := prog_7_method_4_code
def yX5_told : MethodName := ⟨RX5, "told", "(I)I"⟩
abbrev cX5_isIn : ByteArray := prog_7_method_5_code
def yX5_isIn : MethodName := ⟨RX5, "isIn", "(III)Z"⟩
abbrev cX5_isType : ByteArray := prog_7_method_6_code
def yX5_isType : MethodName := ⟨RX5, "isType", "(I)Z"⟩
abbrev cX5_isCode : ByteArray := prog_7_method_7_code
def yX5_isCode : MethodName := ⟨RX5, "isCode", "(I)Z"⟩
abbrev cX5_keyAt : ByteArray := prog_7_method_8_code
def yX5_keyAt : MethodName := ⟨RX5, "keyAt", "(II)I"⟩
abbrev cX5_part : ByteArray := prog_7_method_9_code
def yX5_part : MethodName := ⟨RX5, "part", "(II)V"⟩
abbrev cX5_all : ByteArray := prog_7_method_10_code
def yX5_all : MethodName := ⟨RX5, "all", "()I"⟩
abbrev cX5_next : ByteArray := prog_7_method_11_code
def yX5_next : MethodName := ⟨RX5, "next", "(I)I"⟩
abbrev cX5_start : ByteArray := prog_7_method_12_code
def yX5_start : MethodName := ⟨RX5, "start", "(I)I"⟩
abbrev cX5_count : ByteArray := prog_7_method_13_code
def yX5_count : MethodName := ⟨RX5, "count", "()I"⟩
abbrev cX5_price : ByteArray := prog_7_method_14_code
def yX5_price : MethodName := ⟨RX5, "price", "(I)I"⟩
abbrev cX5_priceNow : ByteArray := prog_7_method_15_code
def yX5_priceNow : MethodName := ⟨RX5, "priceNow", "()I"⟩
abbrev cX5_priceOfWords : ByteArray := prog_7_method_16_code
def yX5_priceOfWords : MethodName := ⟨RX5, "priceOfWords", "()I"⟩
abbrev cX5_isGarbled : ByteArray := prog_7_method_17_code
def yX5_isGarbled : MethodName := ⟨RX5, "isGarbled", "(II)Z"⟩
abbrev cX5_go : ByteArray := prog_7_method_18_code
def yX5_go : MethodName := ⟨RX5, "go", "(II)V"⟩
abbrev cX5_addCode : ByteArray := prog_7_method_19_code
def yX5_addCode : MethodName := ⟨RX5, "addCode", "(IIII)I"⟩
abbrev cX5_dropCode : ByteArray := prog_7_method_20_code
def yX5_dropCode : MethodName := ⟨RX5, "dropCode", "(I)I"⟩
abbrev cX5_codes : ByteArray := prog_7_method_21_code
def yX5_codes : MethodName := ⟨RX5, "codes", "()I"⟩
abbrev cX5_lengthOf : ByteArray := prog_7_method_22_code
def yX5_lengthOf : MethodName := ⟨RX5, "lengthOf", "(I)I"⟩
abbrev cX5_write : ByteArray := prog_7_method_23_code
def yX5_write : MethodName := ⟨RX5, "write", "(I)I"⟩
abbrev cX5_strike : ByteArray := prog_7_method_24_code
def yX5_strike : MethodName := ⟨RX5, "strike", "()I"⟩
abbrev cX5_clear : ByteArray := prog_7_method_25_code
def yX5_clear : MethodName := ⟨RX5, "clear", "()I"⟩
abbrev cX5_words : ByteArray := prog_7_method_26_code
def yX5_words : MethodName := ⟨RX5, "words", "()I"⟩
abbrev cX5_typeOf : ByteArray := prog_7_method_27_code
def yX5_typeOf : MethodName := ⟨RX5, "typeOf", "(I)I"⟩
abbrev cX5_groups : ByteArray := prog_7_method_28_code
def yX5_groups : MethodName := ⟨RX5, "groups", "()I"⟩
abbrev cX5_codeOf : ByteArray := prog_7_method_29_code
def yX5_codeOf : MethodName := ⟨RX5, "codeOf", "(I)I"⟩
abbrev cX5_startOf : ByteArray := prog_7_method_30_code
def yX5_startOf : MethodName := ⟨RX5, "startOf", "(I)I"⟩
abbrev cX5_uses : ByteArray := prog_7_method_31_code
def yX5_uses : MethodName := ⟨RX5, "uses", "(I)I"⟩
abbrev cX5_usesOf : ByteArray := prog_7_method_32_code
def yX5_usesOf : MethodName := ⟨RX5, "usesOf", "(I)I"⟩
abbrev cX5_counted : ByteArray := prog_7_method_33_code
def yX5_counted : MethodName := ⟨RX5, "counted", "()I"⟩
abbrev cX5_cost : ByteArray := prog_7_method_34_code
def yX5_cost : MethodName := ⟨RX5, "cost", "()I"⟩
abbrev cX5_saved : ByteArray := prog_7_method_35_code
def yX5_saved : MethodName := ⟨RX5, "saved", "()I"⟩
abbrev cX5_setQuality : ByteArray := prog_7_method_36_code
def yX5_setQuality : MethodName := ⟨RX5, "setQuality", "(I)I"⟩
abbrev cX5_send : ByteArray := prog_7_method_37_code
def yX5_send : MethodName := ⟨RX5, "send", "()I"⟩
abbrev cX5_sentGroups : ByteArray := prog_7_method_38_code
def yX5_sentGroups : MethodName := ⟨RX5, "sentGroups", "()I"⟩
abbrev cX5_repeats : ByteArray := prog_7_method_39_code
def yX5_repeats : MethodName := ⟨RX5, "repeats", "()I"⟩
abbrev cX5_lost : ByteArray := prog_7_method_40_code
def yX5_lost : MethodName := ⟨RX5, "lost", "()I"⟩
abbrev cX5_earned : ByteArray := prog_7_method_41_code
def yX5_earned : MethodName := ⟨RX5, "earned", "()I"⟩
abbrev cX5_until : ByteArray := prog_7_method_42_code
def yX5_until : MethodName := ⟨RX5, "until", "()I"⟩
abbrev cX5_untilGarbled : ByteArray := prog_7_method_43_code
def yX5_untilGarbled : MethodName := ⟨RX5, "untilGarbled", "()I"⟩
abbrev cX5_garbled : ByteArray := prog_7_method_44_code
def yX5_garbled : MethodName := ⟨RX5, "garbled", "()I"⟩
abbrev cX5_wouldBeGarbled : ByteArray := prog_7_method_45_code
def yX5_wouldBeGarbled : MethodName := ⟨RX5, "wouldBeGarbled", "()I"⟩
abbrev cX5_again : ByteArray := prog_7_method_46_code
def yX5_again : MethodName := ⟨RX5, "again", "()I"⟩
abbrev cX5_repeatsIfSent : ByteArray := prog_7_method_47_code
def yX5_repeatsIfSent : MethodName := ⟨RX5, "repeatsIfSent", "()I"⟩
abbrev cX5_wanted : ByteArray := prog_7_method_48_code
def yX5_wanted : MethodName := ⟨RX5, "wanted", "()I"⟩
abbrev cX5_qualityWanted : ByteArray := prog_7_method_49_code
def yX5_qualityWanted : MethodName := ⟨RX5, "qualityWanted", "()I"⟩
abbrev cX5_useless : ByteArray := prog_7_method_50_code
def yX5_useless : MethodName := ⟨RX5, "useless", "()I"⟩
abbrev cX5_uselessCode : ByteArray := prog_7_method_51_code
def yX5_uselessCode : MethodName := ⟨RX5, "uselessCode", "()I"⟩
abbrev cX5_bestNew : ByteArray := prog_7_method_52_code
def yX5_bestNew : MethodName := ⟨RX5, "bestNew", "(I)I"⟩
abbrev cX5_bestNewCode : ByteArray := prog_7_method_53_code
def yX5_bestNewCode : MethodName := ⟨RX5, "bestNewCode", "(I)I"⟩
abbrev cX5_meanLength : ByteArray := prog_7_method_54_code
def yX5_meanLength : MethodName := ⟨RX5, "meanLength", "()D"⟩
abbrev cX5_digest : ByteArray := prog_7_method_55_code
def yX5_digest : MethodName := ⟨RX5, "digest", "()J"⟩
def RJ9 : String := "java/lang/Math"
def TJ9 : u_T := fun k => match k with
  | _ => ("", "", "", false)
def tyJ9 : Nat → FieldType := fun k => match k with
  | _ => .int
abbrev wsJ90 : List Cond := u_ws RJ9 TJ9 0
theorem nmJ9 : ∀ a, a < 0 → ∀ b, b < 0 → a ≠ b → (TJ9 a).2.1 ≠ (TJ9 b).2.1 := by decide +kernel
theorem tyJ9_ok : ∀ k, k < 0 → parseFieldDescriptor (TJ9 k).2.2.1 = some (tyJ9 k) := by decide +kernel
abbrev cJ9_max_7cf53 : ByteArray := prog_12_method_65_code
def yJ9_max_7cf53 : MethodName := ⟨RJ9, "max", "(II)I"⟩
abbrev cJ9_min_7cf53 : ByteArray := prog_12_method_69_code
def yJ9_min_7cf53 : MethodName := ⟨RJ9, "min", "(II)I"⟩
def RJ0 : String := "java/lang/String"
def TJ0 : u_T := fun k => match k with
  | _ => ("", "", "", false)
def tyJ0 : Nat → FieldType := fun k => match k with
  | _ => .int
abbrev wsJ00 : List Cond := u_ws RJ0 TJ0 0
theorem nmJ0 : ∀ a, a < 0 → ∀ b, b < 0 → a ≠ b → (TJ0 a).2.1 ≠ (TJ0 b).2.1 := by decide +kernel
theorem tyJ0_ok : ∀ k, k < 0 → parseFieldDescriptor (TJ0 k).2.2.1 = some (tyJ0 k) := by decide +kernel
def RJ10 : String := "java/lang/System"
def TJ10 : u_T := fun k => match k with
  | _ => ("", "", "", false)
def tyJ10 : Nat → FieldType := fun k => match k with
  | _ => .int
abbrev wsJ100 : List Cond := u_ws RJ10 TJ10 0
theorem nmJ10 : ∀ a, a < 0 → ∀ b, b < 0 → a ≠ b → (TJ10 a).2.1 ≠ (TJ10 b).2.1 := by decide +kernel
theorem tyJ10_ok : ∀ k, k < 0 → parseFieldDescriptor (TJ10 k).2.2.1 = some (tyJ10 k) := by decide +kernel
def RL : String := "TelegraphDeskLaw"
abbrev cL_addCode : ByteArray := method_3_code
def yL_addCode : MethodName := ⟨RL, "addCode", "(LTelegraphDesk;IIII[J)I"⟩
abbrev cL_dropCode : ByteArray := method_4_code
def yL_dropCode : MethodName := ⟨RL, "dropCode", "(LTelegraphDesk;I[J)I"⟩
abbrev cL_lengthOf : ByteArray := method_5_code
def yL_lengthOf : MethodName := ⟨RL, "lengthOf", "(LTelegraphDesk;I[J)I"⟩
abbrev cL_write : ByteArray := method_6_code
def yL_write : MethodName := ⟨RL, "write", "(LTelegraphDesk;I[J)I"⟩
abbrev cL_strike : ByteArray := method_7_code
def yL_strike : MethodName := ⟨RL, "strike", "(LTelegraphDesk;[J)I"⟩
abbrev cL_typeOf : ByteArray := method_8_code
def yL_typeOf : MethodName := ⟨RL, "typeOf", "(LTelegraphDesk;I[J)I"⟩
abbrev cL_codeOf : ByteArray := method_9_code
def yL_codeOf : MethodName := ⟨RL, "codeOf", "(LTelegraphDesk;I[J)I"⟩
abbrev cL_startOf : ByteArray := method_10_code
def yL_startOf : MethodName := ⟨RL, "startOf", "(LTelegraphDesk;I[J)I"⟩
abbrev cL_usesOf : ByteArray := method_11_code
def yL_usesOf : MethodName := ⟨RL, "usesOf", "(LTelegraphDesk;I[J)I"⟩
abbrev cL_setQuality : ByteArray := method_12_code
def yL_setQuality : MethodName := ⟨RL, "setQuality", "(LTelegraphDesk;I[J)I"⟩
abbrev cL_send : ByteArray := method_13_code
def yL_send : MethodName := ⟨RL, "send", "(LTelegraphDesk;[J)I"⟩
abbrev cL_bestNewCode : ByteArray := method_14_code
def yL_bestNewCode : MethodName := ⟨RL, "bestNewCode", "(LTelegraphDesk;I[J)I"⟩
abbrev cL_law : ByteArray := code
def yL_law : MethodName := ⟨RL, "law", "([I)Z"⟩
def wsX0_init : List Cond := .code yX0_init cX0_init 1 none :: ([.methodLink RX0 3 objectInit, .instanceMethod objectInit, .code objectInit ⟨#[0xb1]⟩ 1 none, .arrayClass .int, .fieldLink RX0 9 "TelegraphDesk$CodeBook" "types" "[I", .fieldLink RX0 15 "TelegraphDesk$CodeBook" "lengths" "[I"] ++ wsX00)
def wsX0_size : List Cond := .code yX0_size cX0_size 1 (some .int) :: ([.fieldLink RX0 18 "TelegraphDesk$CodeBook" "count" "I"] ++ wsX00)
def wsX0_isFull : List Cond := .code yX0_isFull cX0_isFull 1 (some .boolean) :: ([.fieldLink RX0 18 "TelegraphDesk$CodeBook" "count" "I"] ++ wsX00)
def wsX0_has : List Cond := .code yX0_has cX0_has 2 (some .boolean) :: ([.fieldLink RX0 18 "TelegraphDesk$CodeBook" "count" "I"] ++ wsX00)
def wsX0_typeIn : List Cond := .code yX0_typeIn cX0_typeIn 3 (some .int) :: ([.fieldLink RX0 9 "TelegraphDesk$CodeBook" "types" "[I", .methodLink RX0 22 yX0_has, .instanceMethod yX0_has, .selects RX0 yX0_has yX0_has, .initialized RX0, .code yX0_has cX0_has 2 (some .boolean), .fieldLink RX0 18 "TelegraphDesk$CodeBook" "count" "I"] ++ wsX00)
def wsX0_wordsIn : List Cond := .code yX0_wordsIn cX0_wordsIn 2 (some .int) :: ([.fieldLink RX0 15 "TelegraphDesk$CodeBook" "lengths" "[I", .methodLink RX0 22 yX0_has, .instanceMethod yX0_has, .selects RX0 yX0_has yX0_has, .initialized RX0, .code yX0_has cX0_has 2 (some .boolean), .fieldLink RX0 18 "TelegraphDesk$CodeBook" "count" "I"] ++ wsX00)
def wsX0_holds : List Cond := .code yX0_holds cX0_holds 6 (some .boolean) :: ([.fieldLink RX0 18 "TelegraphDesk$CodeBook" "count" "I", .methodLink RX0 26 yX0_typeIn, .instanceMethod yX0_typeIn, .selects RX0 yX0_typeIn yX0_typeIn, .initialized RX0, .code yX0_typeIn cX0_typeIn 3 (some .int), .fieldLink RX0 9 "TelegraphDesk$CodeBook" "types" "[I", .methodLink RX0 22 yX0_has, .instanceMethod yX0_has, .selects RX0 yX0_has yX0_has, .code yX0_has cX0_has 2 (some .boolean)] ++ wsX00)
def wsX0_append : List Cond := .code yX0_append cX0_append 6 none :: ([.fieldLink RX0 18 "TelegraphDesk$CodeBook" "count" "I", .fieldLink RX0 9 "TelegraphDesk$CodeBook" "types" "[I", .fieldLink RX0 15 "TelegraphDesk$CodeBook" "lengths" "[I", .methodLink RX0 30 yX0_isFull, .instanceMethod yX0_isFull, .selects RX0 yX0_isFull yX0_isFull, .initialized RX0, .code yX0_isFull cX0_isFull 1 (some .boolean)] ++ wsX00)
def wsX0_remove : List Cond := .code yX0_remove cX0_remove 3 none :: ([.fieldLink RX0 18 "TelegraphDesk$CodeBook" "count" "I", .fieldLink RX0 9 "TelegraphDesk$CodeBook" "types" "[I", .methodLink RX0 34 arraycopyName, .native arraycopyName, .static arraycopyName, .initialized "java/lang/System", .fieldLink RX0 15 "TelegraphDesk$CodeBook" "lengths" "[I", .methodLink RX0 22 yX0_has, .instanceMethod yX0_has, .selects RX0 yX0_has yX0_has, .initialized RX0, .code yX0_has cX0_has 2 (some .boolean)] ++ wsX00)
def wsX1_init : List Cond := .code yX1_init cX1_init 1 none :: ([.methodLink RX1 3 objectInit, .instanceMethod objectInit, .code objectInit ⟨#[0xb1]⟩ 1 none, .arrayClass .int, .fieldLink RX1 9 "TelegraphDesk$Message" "types" "[I"] ++ wsX10)
def wsX1_size : List Cond := .code yX1_size cX1_size 1 (some .int) :: ([.fieldLink RX1 15 "TelegraphDesk$Message" "count" "I"] ++ wsX10)
def wsX1_isFull : List Cond := .code yX1_isFull cX1_isFull 1 (some .boolean) :: ([.fieldLink RX1 15 "TelegraphDesk$Message" "count" "I"] ++ wsX10)
def wsX1_has : List Cond := .code yX1_has cX1_has 2 (some .boolean) :: ([.fieldLink RX1 15 "TelegraphDesk$Message" "count" "I"] ++ wsX10)
def wsX1_typeAt : List Cond := .code yX1_typeAt cX1_typeAt 2 (some .int) :: ([.fieldLink RX1 9 "TelegraphDesk$Message" "types" "[I", .methodLink RX1 19 yX1_has, .instanceMethod yX1_has, .selects RX1 yX1_has yX1_has, .initialized RX1, .code yX1_has cX1_has 2 (some .boolean), .fieldLink RX1 15 "TelegraphDesk$Message" "count" "I"] ++ wsX10)
def wsX1_countOf : List Cond := .code yX1_countOf cX1_countOf 2 (some .int) :: ([.methodLink RX1 23 yX1_typeAt, .instanceMethod yX1_typeAt, .selects RX1 yX1_typeAt yX1_typeAt, .initialized RX1, .code yX1_typeAt cX1_typeAt 2 (some .int), .fieldLink RX1 9 "TelegraphDesk$Message" "types" "[I", .methodLink RX1 19 yX1_has, .instanceMethod yX1_has, .selects RX1 yX1_has yX1_has, .code yX1_has cX1_has 2 (some .boolean), .fieldLink RX1 15 "TelegraphDesk$Message" "count" "I"] ++ wsX10)
def wsX1_countOfAll : List Cond := .code yX1_countOfAll cX1_countOfAll 3 (some .int) :: ([.fieldLink RX1 15 "TelegraphDesk$Message" "count" "I", .methodLink RX1 27 yX1_countOf, .instanceMethod yX1_countOf, .selects RX1 yX1_countOf yX1_countOf, .initialized RX1, .code yX1_countOf cX1_countOf 2 (some .int), .methodLink RX1 23 yX1_typeAt, .instanceMethod yX1_typeAt, .selects RX1 yX1_typeAt yX1_typeAt, .code yX1_typeAt cX1_typeAt 2 (some .int), .fieldLink RX1 9 "TelegraphDesk$Message" "types" "[I", .methodLink RX1 19 yX1_has, .instanceMethod yX1_has, .selects RX1 yX1_has yX1_has, .code yX1_has cX1_has 2 (some .boolean)] ++ wsX10)
def wsX1_hasSameWords : List Cond := .code yX1_hasSameWords cX1_hasSameWords 5 (some .boolean) :: ([.methodLink RX1 19 yX1_has, .instanceMethod yX1_has, .selects RX1 yX1_has yX1_has, .initialized RX1, .code yX1_has cX1_has 2 (some .boolean), .fieldLink RX1 15 "TelegraphDesk$Message" "count" "I", .methodLink RX1 23 yX1_typeAt, .instanceMethod yX1_typeAt, .selects RX1 yX1_typeAt yX1_typeAt, .code yX1_typeAt cX1_typeAt 2 (some .int), .fieldLink RX1 9 "TelegraphDesk$Message" "types" "[I"] ++ wsX10)
def wsX1_hasWordsOf_r1 : List Cond := [Cond.methodLink RX1 30 yX0_wordsIn, Cond.instanceMethod yX0_wordsIn, Cond.selects RX0 yX0_wordsIn yX0_wordsIn, Cond.initialized RX0, Cond.code yX0_wordsIn cX0_wordsIn 2 (some .int), Cond.fieldLink RX0 15 "TelegraphDesk$CodeBook" "lengths" "[I", Cond.methodLink RX0 22 yX0_has, Cond.instanceMethod yX0_has, Cond.selects RX0 yX0_has yX0_has, Cond.code yX0_has cX0_has 2 (some .boolean), Cond.fieldLink RX0 18 "TelegraphDesk$CodeBook" "count" "I", Cond.methodLink RX1 19 yX1_has, Cond.instanceMethod yX1_has, Cond.selects RX1 yX1_has yX1_has, Cond.initialized RX1, Cond.code yX1_has cX1_has 2 (some .boolean), Cond.fieldLink RX1 15 "TelegraphDesk$Message" "count" "I", Cond.methodLink RX1 23 yX1_typeAt, Cond.instanceMethod yX1_typeAt, Cond.selects RX1 yX1_typeAt yX1_typeAt, Cond.code yX1_typeAt cX1_typeAt 2 (some .int), Cond.fieldLink RX1 9 "TelegraphDesk$Message" "types" "[I", Cond.methodLink RX1 35 yX0_typeIn, Cond.instanceMethod yX0_typeIn]
def wsX1_hasWordsOf_r2 : List Cond := [Cond.selects RX0 yX0_typeIn yX0_typeIn, Cond.code yX0_typeIn cX0_typeIn 3 (some .int), Cond.fieldLink RX0 9 "TelegraphDesk$CodeBook" "types" "[I"]
def wsX1_hasWordsOf : List Cond := .code yX1_hasWordsOf cX1_hasWordsOf 6 (some .boolean) :: ((wsX1_hasWordsOf_r1 ++ wsX1_hasWordsOf_r2) ++ wsX00 ++ wsX10)
def wsX1_append : List Cond := .code yX1_append cX1_append 2 none :: ([.fieldLink RX1 9 "TelegraphDesk$Message" "types" "[I", .fieldLink RX1 15 "TelegraphDesk$Message" "count" "I", .methodLink RX1 39 yX1_isFull, .instanceMethod yX1_isFull, .selects RX1 yX1_isFull yX1_isFull, .initialized RX1, .code yX1_isFull cX1_isFull 1 (some .boolean)] ++ wsX10)
def wsX1_removeLast : List Cond := .code yX1_removeLast cX1_removeLast 1 none :: ([.fieldLink RX1 15 "TelegraphDesk$Message" "count" "I", .methodLink RX1 43 Lib.Math.max.name, .static Lib.Math.max.name, .initialized "java/lang/Math", .code Lib.Math.max.name Lib.Math.max.code 2 (some .int)] ++ wsX10)
def wsX1_removeAll : List Cond := .code yX1_removeAll cX1_removeAll 1 none :: ([.fieldLink RX1 15 "TelegraphDesk$Message" "count" "I"] ++ wsX10)
def wsX2_init : List Cond := .code yX2_init cX2_init 1 none :: ([.methodLink RX2 3 objectInit, .instanceMethod objectInit, .code objectInit ⟨#[0xb1]⟩ 1 none, .arrayClass .int, .fieldLink RX2 9 "TelegraphDesk$Parting" "fewest" "[I", .fieldLink RX2 15 "TelegraphDesk$Parting" "lengths" "[I", .fieldLink RX2 18 "TelegraphDesk$Parting" "codes" "[I", .fieldLink RX2 21 "TelegraphDesk$Parting" "starts" "[I"] ++ wsX20)
def wsX2_size : List Cond := .code yX2_size cX2_size 1 (some .int) :: ([.fieldLink RX2 24 "TelegraphDesk$Parting" "count" "I"] ++ wsX20)
def wsX2_has : List Cond := .code yX2_has cX2_has 2 (some .boolean) :: ([.fieldLink RX2 24 "TelegraphDesk$Parting" "count" "I"] ++ wsX20)
def wsX2_startAt : List Cond := .code yX2_startAt cX2_startAt 2 (some .int) :: ([.fieldLink RX2 21 "TelegraphDesk$Parting" "starts" "[I", .methodLink RX2 28 yX2_has, .instanceMethod yX2_has, .selects RX2 yX2_has yX2_has, .initialized RX2, .code yX2_has cX2_has 2 (some .boolean), .fieldLink RX2 24 "TelegraphDesk$Parting" "count" "I"] ++ wsX20)
def wsX2_codeAt : List Cond := .code yX2_codeAt cX2_codeAt 2 (some .int) :: ([.fieldLink RX2 18 "TelegraphDesk$Parting" "codes" "[I", .fieldLink RX2 21 "TelegraphDesk$Parting" "starts" "[I", .methodLink RX2 28 yX2_has, .instanceMethod yX2_has, .selects RX2 yX2_has yX2_has, .initialized RX2, .code yX2_has cX2_has 2 (some .boolean), .fieldLink RX2 24 "TelegraphDesk$Parting" "count" "I"] ++ wsX20)
def wsX2_groupsWith : List Cond := .code yX2_groupsWith cX2_groupsWith 4 (some .int) :: ([.fieldLink RX2 24 "TelegraphDesk$Parting" "count" "I", .methodLink RX2 32 yX2_codeAt, .instanceMethod yX2_codeAt, .selects RX2 yX2_codeAt yX2_codeAt, .initialized RX2, .code yX2_codeAt cX2_codeAt 2 (some .int), .fieldLink RX2 18 "TelegraphDesk$Parting" "codes" "[I", .fieldLink RX2 21 "TelegraphDesk$Parting" "starts" "[I", .methodLink RX2 28 yX2_has, .instanceMethod yX2_has, .selects RX2 yX2_has yX2_has, .code yX2_has cX2_has 2 (some .boolean)] ++ wsX20)
def wsX2_takeWord : List Cond := .code yX2_takeWord cX2_takeWord 2 none :: ([.fieldLink RX2 9 "TelegraphDesk$Parting" "fewest" "[I", .fieldLink RX2 15 "TelegraphDesk$Parting" "lengths" "[I", .fieldLink RX2 18 "TelegraphDesk$Parting" "codes" "[I"] ++ wsX20)
def wsX2_takeIfBetter : List Cond := .code yX2_takeIfBetter cX2_takeIfBetter 5 none :: ([.fieldLink RX2 9 "TelegraphDesk$Parting" "fewest" "[I", .fieldLink RX2 15 "TelegraphDesk$Parting" "lengths" "[I", .fieldLink RX2 18 "TelegraphDesk$Parting" "codes" "[I"] ++ wsX20)
def wsX2_listStarts : List Cond := .code yX2_listStarts cX2_listStarts 3 none :: ([.fieldLink RX2 24 "TelegraphDesk$Parting" "count" "I", .fieldLink RX2 21 "TelegraphDesk$Parting" "starts" "[I", .fieldLink RX2 15 "TelegraphDesk$Parting" "lengths" "[I"] ++ wsX20)
def wsX2_part_r1 : List Cond := [Cond.methodLink RX2 46 Lib.Math.min.name, Cond.static Lib.Math.min.name, Cond.initialized "java/lang/Math", Cond.code Lib.Math.min.name Lib.Math.min.code 2 (some .int), Cond.fieldLink RX2 9 "TelegraphDesk$Parting" "fewest" "[I", Cond.methodLink RX2 40 yX1_size, Cond.instanceMethod yX1_size, Cond.selects RX1 yX1_size yX1_size, Cond.initialized RX1, Cond.code yX1_size cX1_size 1 (some .int), Cond.fieldLink RX1 15 "TelegraphDesk$Message" "count" "I", Cond.methodLink RX2 52 yX2_takeWord, Cond.instanceMethod yX2_takeWord, Cond.selects RX2 yX2_takeWord yX2_takeWord, Cond.initialized RX2, Cond.code yX2_takeWord cX2_takeWord 2 none, Cond.fieldLink RX2 15 "TelegraphDesk$Parting" "lengths" "[I", Cond.fieldLink RX2 18 "TelegraphDesk$Parting" "codes" "[I", Cond.methodLink RX2 56 yX0_size, Cond.instanceMethod yX0_size, Cond.selects RX0 yX0_size yX0_size, Cond.initialized RX0, Cond.code yX0_size cX0_size 1 (some .int), Cond.fieldLink RX0 18 "TelegraphDesk$CodeBook" "count" "I"]
def wsX2_part_r2 : List Cond := [Cond.methodLink RX2 59 yX1_hasWordsOf, Cond.instanceMethod yX1_hasWordsOf, Cond.selects RX1 yX1_hasWordsOf yX1_hasWordsOf, Cond.code yX1_hasWordsOf cX1_hasWordsOf 6 (some .boolean), Cond.methodLink RX1 30 yX0_wordsIn, Cond.instanceMethod yX0_wordsIn, Cond.selects RX0 yX0_wordsIn yX0_wordsIn, Cond.code yX0_wordsIn cX0_wordsIn 2 (some .int), Cond.fieldLink RX0 15 "TelegraphDesk$CodeBook" "lengths" "[I", Cond.methodLink RX0 22 yX0_has, Cond.instanceMethod yX0_has, Cond.selects RX0 yX0_has yX0_has, Cond.code yX0_has cX0_has 2 (some .boolean), Cond.methodLink RX1 19 yX1_has, Cond.instanceMethod yX1_has, Cond.selects RX1 yX1_has yX1_has, Cond.code yX1_has cX1_has 2 (some .boolean), Cond.methodLink RX1 23 yX1_typeAt, Cond.instanceMethod yX1_typeAt, Cond.selects RX1 yX1_typeAt yX1_typeAt, Cond.code yX1_typeAt cX1_typeAt 2 (some .int), Cond.fieldLink RX1 9 "TelegraphDesk$Message" "types" "[I", Cond.methodLink RX1 35 yX0_typeIn, Cond.instanceMethod yX0_typeIn]
def wsX2_part_r3 : List Cond := [Cond.selects RX0 yX0_typeIn yX0_typeIn, Cond.code yX0_typeIn cX0_typeIn 3 (some .int), Cond.fieldLink RX0 9 "TelegraphDesk$CodeBook" "types" "[I", Cond.methodLink RX2 63 yX0_wordsIn, Cond.methodLink RX2 66 yX2_takeIfBetter, Cond.instanceMethod yX2_takeIfBetter, Cond.selects RX2 yX2_takeIfBetter yX2_takeIfBetter, Cond.code yX2_takeIfBetter cX2_takeIfBetter 5 none, Cond.methodLink RX2 70 yX1_hasSameWords, Cond.instanceMethod yX1_hasSameWords, Cond.selects RX1 yX1_hasSameWords yX1_hasSameWords, Cond.code yX1_hasSameWords cX1_hasSameWords 5 (some .boolean), Cond.methodLink RX2 74 yX2_listStarts, Cond.instanceMethod yX2_listStarts, Cond.selects RX2 yX2_listStarts yX2_listStarts, Cond.code yX2_listStarts cX2_listStarts 3 none, Cond.fieldLink RX2 24 "TelegraphDesk$Parting" "count" "I", Cond.fieldLink RX2 21 "TelegraphDesk$Parting" "starts" "[I"]
def wsX2_part : List Cond := .code yX2_part cX2_part 9 none :: ((wsX2_part_r1 ++ (wsX2_part_r2 ++ wsX2_part_r3)) ++ wsX20 ++ wsX10 ++ wsX00)
def wsX2_partAsIs_r1 : List Cond := [Cond.methodLink RX2 36 yX2_part, Cond.instanceMethod yX2_part, Cond.selects RX2 yX2_part yX2_part, Cond.initialized RX2, Cond.code yX2_part cX2_part 9 none, Cond.methodLink RX2 46 Lib.Math.min.name, Cond.static Lib.Math.min.name, Cond.initialized "java/lang/Math", Cond.code Lib.Math.min.name Lib.Math.min.code 2 (some .int), Cond.fieldLink RX2 9 "TelegraphDesk$Parting" "fewest" "[I", Cond.methodLink RX2 40 yX1_size, Cond.instanceMethod yX1_size, Cond.selects RX1 yX1_size yX1_size, Cond.initialized RX1, Cond.code yX1_size cX1_size 1 (some .int), Cond.fieldLink RX1 15 "TelegraphDesk$Message" "count" "I", Cond.methodLink RX2 52 yX2_takeWord, Cond.instanceMethod yX2_takeWord, Cond.selects RX2 yX2_takeWord yX2_takeWord, Cond.code yX2_takeWord cX2_takeWord 2 none, Cond.fieldLink RX2 15 "TelegraphDesk$Parting" "lengths" "[I", Cond.fieldLink RX2 18 "TelegraphDesk$Parting" "codes" "[I", Cond.methodLink RX2 56 yX0_size, Cond.instanceMethod yX0_size]
def wsX2_partAsIs_r2 : List Cond := [Cond.selects RX0 yX0_size yX0_size, Cond.initialized RX0, Cond.code yX0_size cX0_size 1 (some .int), Cond.fieldLink RX0 18 "TelegraphDesk$CodeBook" "count" "I", Cond.methodLink RX2 59 yX1_hasWordsOf, Cond.instanceMethod yX1_hasWordsOf, Cond.selects RX1 yX1_hasWordsOf yX1_hasWordsOf, Cond.code yX1_hasWordsOf cX1_hasWordsOf 6 (some .boolean), Cond.methodLink RX1 30 yX0_wordsIn, Cond.instanceMethod yX0_wordsIn, Cond.selects RX0 yX0_wordsIn yX0_wordsIn, Cond.code yX0_wordsIn cX0_wordsIn 2 (some .int), Cond.fieldLink RX0 15 "TelegraphDesk$CodeBook" "lengths" "[I", Cond.methodLink RX0 22 yX0_has, Cond.instanceMethod yX0_has, Cond.selects RX0 yX0_has yX0_has, Cond.code yX0_has cX0_has 2 (some .boolean), Cond.methodLink RX1 19 yX1_has, Cond.instanceMethod yX1_has, Cond.selects RX1 yX1_has yX1_has, Cond.code yX1_has cX1_has 2 (some .boolean), Cond.methodLink RX1 23 yX1_typeAt, Cond.instanceMethod yX1_typeAt, Cond.selects RX1 yX1_typeAt yX1_typeAt]
def wsX2_partAsIs_r3 : List Cond := [Cond.code yX1_typeAt cX1_typeAt 2 (some .int), Cond.fieldLink RX1 9 "TelegraphDesk$Message" "types" "[I", Cond.methodLink RX1 35 yX0_typeIn, Cond.instanceMethod yX0_typeIn, Cond.selects RX0 yX0_typeIn yX0_typeIn, Cond.code yX0_typeIn cX0_typeIn 3 (some .int), Cond.fieldLink RX0 9 "TelegraphDesk$CodeBook" "types" "[I", Cond.methodLink RX2 63 yX0_wordsIn, Cond.methodLink RX2 66 yX2_takeIfBetter, Cond.instanceMethod yX2_takeIfBetter, Cond.selects RX2 yX2_takeIfBetter yX2_takeIfBetter, Cond.code yX2_takeIfBetter cX2_takeIfBetter 5 none, Cond.methodLink RX2 70 yX1_hasSameWords, Cond.instanceMethod yX1_hasSameWords, Cond.selects RX1 yX1_hasSameWords yX1_hasSameWords, Cond.code yX1_hasSameWords cX1_hasSameWords 5 (some .boolean), Cond.methodLink RX2 74 yX2_listStarts, Cond.instanceMethod yX2_listStarts, Cond.selects RX2 yX2_listStarts yX2_listStarts, Cond.code yX2_listStarts cX2_listStarts 3 none, Cond.fieldLink RX2 24 "TelegraphDesk$Parting" "count" "I", Cond.fieldLink RX2 21 "TelegraphDesk$Parting" "starts" "[I"]
def wsX2_partAsIs : List Cond := .code yX2_partAsIs cX2_partAsIs 3 none :: ((wsX2_partAsIs_r1 ++ (wsX2_partAsIs_r2 ++ wsX2_partAsIs_r3)) ++ wsX20 ++ wsX10 ++ wsX00)
def wsX2_partWithout_r1 : List Cond := [Cond.methodLink RX2 36 yX2_part, Cond.instanceMethod yX2_part, Cond.selects RX2 yX2_part yX2_part, Cond.initialized RX2, Cond.code yX2_part cX2_part 9 none, Cond.methodLink RX2 46 Lib.Math.min.name, Cond.static Lib.Math.min.name, Cond.initialized "java/lang/Math", Cond.code Lib.Math.min.name Lib.Math.min.code 2 (some .int), Cond.fieldLink RX2 9 "TelegraphDesk$Parting" "fewest" "[I", Cond.methodLink RX2 40 yX1_size, Cond.instanceMethod yX1_size, Cond.selects RX1 yX1_size yX1_size, Cond.initialized RX1, Cond.code yX1_size cX1_size 1 (some .int), Cond.fieldLink RX1 15 "TelegraphDesk$Message" "count" "I", Cond.methodLink RX2 52 yX2_takeWord, Cond.instanceMethod yX2_takeWord, Cond.selects RX2 yX2_takeWord yX2_takeWord, Cond.code yX2_takeWord cX2_takeWord 2 none, Cond.fieldLink RX2 15 "TelegraphDesk$Parting" "lengths" "[I", Cond.fieldLink RX2 18 "TelegraphDesk$Parting" "codes" "[I", Cond.methodLink RX2 56 yX0_size, Cond.instanceMethod yX0_size]
def wsX2_partWithout_r2 : List Cond := [Cond.selects RX0 yX0_size yX0_size, Cond.initialized RX0, Cond.code yX0_size cX0_size 1 (some .int), Cond.fieldLink RX0 18 "TelegraphDesk$CodeBook" "count" "I", Cond.methodLink RX2 59 yX1_hasWordsOf, Cond.instanceMethod yX1_hasWordsOf, Cond.selects RX1 yX1_hasWordsOf yX1_hasWordsOf, Cond.code yX1_hasWordsOf cX1_hasWordsOf 6 (some .boolean), Cond.methodLink RX1 30 yX0_wordsIn, Cond.instanceMethod yX0_wordsIn, Cond.selects RX0 yX0_wordsIn yX0_wordsIn, Cond.code yX0_wordsIn cX0_wordsIn 2 (some .int), Cond.fieldLink RX0 15 "TelegraphDesk$CodeBook" "lengths" "[I", Cond.methodLink RX0 22 yX0_has, Cond.instanceMethod yX0_has, Cond.selects RX0 yX0_has yX0_has, Cond.code yX0_has cX0_has 2 (some .boolean), Cond.methodLink RX1 19 yX1_has, Cond.instanceMethod yX1_has, Cond.selects RX1 yX1_has yX1_has, Cond.code yX1_has cX1_has 2 (some .boolean), Cond.methodLink RX1 23 yX1_typeAt, Cond.instanceMethod yX1_typeAt, Cond.selects RX1 yX1_typeAt yX1_typeAt]
def wsX2_partWithout_r3 : List Cond := [Cond.code yX1_typeAt cX1_typeAt 2 (some .int), Cond.fieldLink RX1 9 "TelegraphDesk$Message" "types" "[I", Cond.methodLink RX1 35 yX0_typeIn, Cond.instanceMethod yX0_typeIn, Cond.selects RX0 yX0_typeIn yX0_typeIn, Cond.code yX0_typeIn cX0_typeIn 3 (some .int), Cond.fieldLink RX0 9 "TelegraphDesk$CodeBook" "types" "[I", Cond.methodLink RX2 63 yX0_wordsIn, Cond.methodLink RX2 66 yX2_takeIfBetter, Cond.instanceMethod yX2_takeIfBetter, Cond.selects RX2 yX2_takeIfBetter yX2_takeIfBetter, Cond.code yX2_takeIfBetter cX2_takeIfBetter 5 none, Cond.methodLink RX2 70 yX1_hasSameWords, Cond.instanceMethod yX1_hasSameWords, Cond.selects RX1 yX1_hasSameWords yX1_hasSameWords, Cond.code yX1_hasSameWords cX1_hasSameWords 5 (some .boolean), Cond.methodLink RX2 74 yX2_listStarts, Cond.instanceMethod yX2_listStarts, Cond.selects RX2 yX2_listStarts yX2_listStarts, Cond.code yX2_listStarts cX2_listStarts 3 none, Cond.fieldLink RX2 24 "TelegraphDesk$Parting" "count" "I", Cond.fieldLink RX2 21 "TelegraphDesk$Parting" "starts" "[I"]
def wsX2_partWithout : List Cond := .code yX2_partWithout cX2_partWithout 4 none :: ((wsX2_partWithout_r1 ++ (wsX2_partWithout_r2 ++ wsX2_partWithout_r3)) ++ wsX20 ++ wsX10 ++ wsX00)
def wsX2_partWithNew_r1 : List Cond := [Cond.methodLink RX2 36 yX2_part, Cond.instanceMethod yX2_part, Cond.selects RX2 yX2_part yX2_part, Cond.initialized RX2, Cond.code yX2_part cX2_part 9 none, Cond.methodLink RX2 46 Lib.Math.min.name, Cond.static Lib.Math.min.name, Cond.initialized "java/lang/Math", Cond.code Lib.Math.min.name Lib.Math.min.code 2 (some .int), Cond.fieldLink RX2 9 "TelegraphDesk$Parting" "fewest" "[I", Cond.methodLink RX2 40 yX1_size, Cond.instanceMethod yX1_size, Cond.selects RX1 yX1_size yX1_size, Cond.initialized RX1, Cond.code yX1_size cX1_size 1 (some .int), Cond.fieldLink RX1 15 "TelegraphDesk$Message" "count" "I", Cond.methodLink RX2 52 yX2_takeWord, Cond.instanceMethod yX2_takeWord, Cond.selects RX2 yX2_takeWord yX2_takeWord, Cond.code yX2_takeWord cX2_takeWord 2 none, Cond.fieldLink RX2 15 "TelegraphDesk$Parting" "lengths" "[I", Cond.fieldLink RX2 18 "TelegraphDesk$Parting" "codes" "[I", Cond.methodLink RX2 56 yX0_size, Cond.instanceMethod yX0_size]
def wsX2_partWithNew_r2 : List Cond := [Cond.selects RX0 yX0_size yX0_size, Cond.initialized RX0, Cond.code yX0_size cX0_size 1 (some .int), Cond.fieldLink RX0 18 "TelegraphDesk$CodeBook" "count" "I", Cond.methodLink RX2 59 yX1_hasWordsOf, Cond.instanceMethod yX1_hasWordsOf, Cond.selects RX1 yX1_hasWordsOf yX1_hasWordsOf, Cond.code yX1_hasWordsOf cX1_hasWordsOf 6 (some .boolean), Cond.methodLink RX1 30 yX0_wordsIn, Cond.instanceMethod yX0_wordsIn, Cond.selects RX0 yX0_wordsIn yX0_wordsIn, Cond.code yX0_wordsIn cX0_wordsIn 2 (some .int), Cond.fieldLink RX0 15 "TelegraphDesk$CodeBook" "lengths" "[I", Cond.methodLink RX0 22 yX0_has, Cond.instanceMethod yX0_has, Cond.selects RX0 yX0_has yX0_has, Cond.code yX0_has cX0_has 2 (some .boolean), Cond.methodLink RX1 19 yX1_has, Cond.instanceMethod yX1_has, Cond.selects RX1 yX1_has yX1_has, Cond.code yX1_has cX1_has 2 (some .boolean), Cond.methodLink RX1 23 yX1_typeAt, Cond.instanceMethod yX1_typeAt, Cond.selects RX1 yX1_typeAt yX1_typeAt]
def wsX2_partWithNew_r3 : List Cond := [Cond.code yX1_typeAt cX1_typeAt 2 (some .int), Cond.fieldLink RX1 9 "TelegraphDesk$Message" "types" "[I", Cond.methodLink RX1 35 yX0_typeIn, Cond.instanceMethod yX0_typeIn, Cond.selects RX0 yX0_typeIn yX0_typeIn, Cond.code yX0_typeIn cX0_typeIn 3 (some .int), Cond.fieldLink RX0 9 "TelegraphDesk$CodeBook" "types" "[I", Cond.methodLink RX2 63 yX0_wordsIn, Cond.methodLink RX2 66 yX2_takeIfBetter, Cond.instanceMethod yX2_takeIfBetter, Cond.selects RX2 yX2_takeIfBetter yX2_takeIfBetter, Cond.code yX2_takeIfBetter cX2_takeIfBetter 5 none, Cond.methodLink RX2 70 yX1_hasSameWords, Cond.instanceMethod yX1_hasSameWords, Cond.selects RX1 yX1_hasSameWords yX1_hasSameWords, Cond.code yX1_hasSameWords cX1_hasSameWords 5 (some .boolean), Cond.methodLink RX2 74 yX2_listStarts, Cond.instanceMethod yX2_listStarts, Cond.selects RX2 yX2_listStarts yX2_listStarts, Cond.code yX2_listStarts cX2_listStarts 3 none, Cond.fieldLink RX2 24 "TelegraphDesk$Parting" "count" "I", Cond.fieldLink RX2 21 "TelegraphDesk$Parting" "starts" "[I"]
def wsX2_partWithNew : List Cond := .code yX2_partWithNew cX2_partWithNew 5 none :: ((wsX2_partWithNew_r1 ++ (wsX2_partWithNew_r2 ++ wsX2_partWithNew_r3)) ++ wsX20 ++ wsX10 ++ wsX00)
def wsX3_init : List Cond := .code yX3_init cX3_init 1 none :: ([.methodLink RX3 3 objectInit, .instanceMethod objectInit, .code objectInit ⟨#[0xb1]⟩ 1 none])
def wsX4_isGarbled : List Cond := .code yX4_isGarbled cX4_isGarbled 2 (some .boolean) :: ([])
def wsX3_isNextGarbled : List Cond := .code yX3_isNextGarbled cX3_isNextGarbled 2 (some .boolean) :: ([.fieldLink RX3 9 "TelegraphDesk$Passage" "sent" "I", .static yX4_isGarbled, .initialized RX4, .code yX4_isGarbled cX4_isGarbled 2 (some .boolean)] ++ wsX30)
def wsX3_pass : List Cond := .code yX3_pass cX3_pass 4 none :: ([.fieldLink RX3 15 "TelegraphDesk$Passage" "garbledFirst" "I", .fieldLink RX3 18 "TelegraphDesk$Passage" "asked" "I", .fieldLink RX3 21 "TelegraphDesk$Passage" "gone" "I", .methodLink RX3 28 yX3_isNextGarbled, .instanceMethod yX3_isNextGarbled, .selects RX3 yX3_isNextGarbled yX3_isNextGarbled, .initialized RX3, .code yX3_isNextGarbled cX3_isNextGarbled 2 (some .boolean), .fieldLink RX3 9 "TelegraphDesk$Passage" "sent" "I", .static yX4_isGarbled, .initialized RX4, .code yX4_isGarbled cX4_isGarbled 2 (some .boolean)] ++ wsX30)
def wsX3_run : List Cond := .code yX3_run cX3_run 5 none :: ([.fieldLink RX3 9 "TelegraphDesk$Passage" "sent" "I", .fieldLink RX3 15 "TelegraphDesk$Passage" "garbledFirst" "I", .fieldLink RX3 18 "TelegraphDesk$Passage" "asked" "I", .fieldLink RX3 21 "TelegraphDesk$Passage" "gone" "I", .methodLink RX3 24 yX3_pass, .instanceMethod yX3_pass, .selects RX3 yX3_pass yX3_pass, .initialized RX3, .code yX3_pass cX3_pass 4 none, .methodLink RX3 28 yX3_isNextGarbled, .instanceMethod yX3_isNextGarbled, .selects RX3 yX3_isNextGarbled yX3_isNextGarbled, .code yX3_isNextGarbled cX3_isNextGarbled 2 (some .boolean), .static yX4_isGarbled, .initialized RX4, .code yX4_isGarbled cX4_isGarbled 2 (some .boolean)] ++ wsX30)
def wsX3_sentAtEnd : List Cond := .code yX3_sentAtEnd cX3_sentAtEnd 1 (some .int) :: ([.fieldLink RX3 9 "TelegraphDesk$Passage" "sent" "I"] ++ wsX30)
def wsX3_garbledAtFirst : List Cond := .code yX3_garbledAtFirst cX3_garbledAtFirst 1 (some .int) :: ([.fieldLink RX3 15 "TelegraphDesk$Passage" "garbledFirst" "I"] ++ wsX30)
def wsX3_repeatsAsked : List Cond := .code yX3_repeatsAsked cX3_repeatsAsked 1 (some .int) :: ([.fieldLink RX3 18 "TelegraphDesk$Passage" "asked" "I"] ++ wsX30)
def wsX3_groupsLost : List Cond := .code yX3_groupsLost cX3_groupsLost 1 (some .int) :: ([.fieldLink RX3 21 "TelegraphDesk$Passage" "gone" "I"] ++ wsX30)
def wsX4_init_r1 : List Cond := [Cond.methodLink RX4 1 objectInit, Cond.instanceMethod objectInit, Cond.code objectInit ⟨#[0xb1]⟩ 1 none, Cond.classLink RX4 7 RX0, Cond.instantiable RX0 3, Cond.initialized RX0, Cond.fieldLink RX4 10 "TelegraphDesk" "book" "LTelegraphDesk$CodeBook;", Cond.classLink RX4 16 RX1, Cond.instantiable RX1 2, Cond.initialized RX1, Cond.fieldLink RX4 19 "TelegraphDesk" "message" "LTelegraphDesk$Message;", Cond.classLink RX4 23 RX2, Cond.instantiable RX2 5, Cond.initialized RX2, Cond.fieldLink RX4 26 "TelegraphDesk" "parting" "LTelegraphDesk$Parting;", Cond.fieldLink RX4 30 "TelegraphDesk" "supposed" "LTelegraphDesk$Parting;", Cond.classLink RX4 33 RX3, Cond.instantiable RX3 4, Cond.initialized RX3, Cond.fieldLink RX4 36 "TelegraphDesk" "passage" "LTelegraphDesk$Passage;", Cond.fieldLink RX4 40 "TelegraphDesk" "quality" "I", Cond.methodLink RX4 9 yX0_init, Cond.instanceMethod yX0_init, Cond.code yX0_init cX0_init 1 none]
def wsX4_init_r2 : List Cond := [Cond.methodLink RX0 3 objectInit, Cond.arrayClass .int, Cond.fieldLink RX0 9 "TelegraphDesk$CodeBook" "types" "[I", Cond.fieldLink RX0 15 "TelegraphDesk$CodeBook" "lengths" "[I", Cond.methodLink RX4 18 yX1_init, Cond.instanceMethod yX1_init, Cond.code yX1_init cX1_init 1 none, Cond.methodLink RX1 3 objectInit, Cond.fieldLink RX1 9 "TelegraphDesk$Message" "types" "[I", Cond.methodLink RX4 25 yX2_init, Cond.instanceMethod yX2_init, Cond.code yX2_init cX2_init 1 none, Cond.methodLink RX2 3 objectInit, Cond.fieldLink RX2 9 "TelegraphDesk$Parting" "fewest" "[I", Cond.fieldLink RX2 15 "TelegraphDesk$Parting" "lengths" "[I", Cond.fieldLink RX2 18 "TelegraphDesk$Parting" "codes" "[I", Cond.fieldLink RX2 21 "TelegraphDesk$Parting" "starts" "[I", Cond.instanceMethod yX3_init, Cond.code yX3_init cX3_init 1 none, Cond.methodLink RX3 3 objectInit]
def wsX4_init : List Cond := .code yX4_init cX4_init 1 none :: ((wsX4_init_r1 ++ wsX4_init_r2) ++ wsX00 ++ wsX40 ++ wsX10 ++ wsX20 ++ wsX30)
def wsX4_isType : List Cond := .code yX4_isType cX4_isType 1 (some .boolean) :: ([])
def wsX4_isTypeOrNone : List Cond := .code yX4_isTypeOrNone cX4_isTypeOrNone 1 (some .boolean) :: ([.methodLink RX4 44 yX4_isType, .static yX4_isType, .initialized RX4, .code yX4_isType cX4_isType 1 (some .boolean)])
def wsX4_shorten_r1 : List Cond := [Cond.fieldLink RX4 26 "TelegraphDesk" "parting" "LTelegraphDesk$Parting;", Cond.fieldLink RX4 19 "TelegraphDesk" "message" "LTelegraphDesk$Message;", Cond.fieldLink RX4 10 "TelegraphDesk" "book" "LTelegraphDesk$CodeBook;", Cond.methodLink RX4 260 yX2_partAsIs, Cond.instanceMethod yX2_partAsIs, Cond.selects RX2 yX2_partAsIs yX2_partAsIs, Cond.initialized RX2, Cond.code yX2_partAsIs cX2_partAsIs 3 none, Cond.methodLink RX2 36 yX2_part, Cond.instanceMethod yX2_part, Cond.selects RX2 yX2_part yX2_part, Cond.code yX2_part cX2_part 9 none, Cond.methodLink RX2 46 Lib.Math.min.name, Cond.static Lib.Math.min.name, Cond.initialized "java/lang/Math", Cond.code Lib.Math.min.name Lib.Math.min.code 2 (some .int), Cond.fieldLink RX2 9 "TelegraphDesk$Parting" "fewest" "[I", Cond.methodLink RX2 40 yX1_size, Cond.instanceMethod yX1_size, Cond.selects RX1 yX1_size yX1_size, Cond.initialized RX1, Cond.code yX1_size cX1_size 1 (some .int), Cond.fieldLink RX1 15 "TelegraphDesk$Message" "count" "I", Cond.methodLink RX2 52 yX2_takeWord]
def wsX4_shorten_r2 : List Cond := [Cond.instanceMethod yX2_takeWord, Cond.selects RX2 yX2_takeWord yX2_takeWord, Cond.code yX2_takeWord cX2_takeWord 2 none, Cond.fieldLink RX2 15 "TelegraphDesk$Parting" "lengths" "[I", Cond.fieldLink RX2 18 "TelegraphDesk$Parting" "codes" "[I", Cond.methodLink RX2 56 yX0_size, Cond.instanceMethod yX0_size, Cond.selects RX0 yX0_size yX0_size, Cond.initialized RX0, Cond.code yX0_size cX0_size 1 (some .int), Cond.fieldLink RX0 18 "TelegraphDesk$CodeBook" "count" "I", Cond.methodLink RX2 59 yX1_hasWordsOf, Cond.instanceMethod yX1_hasWordsOf, Cond.selects RX1 yX1_hasWordsOf yX1_hasWordsOf, Cond.code yX1_hasWordsOf cX1_hasWordsOf 6 (some .boolean), Cond.methodLink RX1 30 yX0_wordsIn, Cond.instanceMethod yX0_wordsIn, Cond.selects RX0 yX0_wordsIn yX0_wordsIn, Cond.code yX0_wordsIn cX0_wordsIn 2 (some .int), Cond.fieldLink RX0 15 "TelegraphDesk$CodeBook" "lengths" "[I", Cond.methodLink RX0 22 yX0_has, Cond.instanceMethod yX0_has, Cond.selects RX0 yX0_has yX0_has, Cond.code yX0_has cX0_has 2 (some .boolean)]
def wsX4_shorten_r3 : List Cond := [Cond.methodLink RX1 19 yX1_has, Cond.instanceMethod yX1_has, Cond.selects RX1 yX1_has yX1_has, Cond.code yX1_has cX1_has 2 (some .boolean), Cond.methodLink RX1 23 yX1_typeAt, Cond.instanceMethod yX1_typeAt, Cond.selects RX1 yX1_typeAt yX1_typeAt, Cond.code yX1_typeAt cX1_typeAt 2 (some .int), Cond.fieldLink RX1 9 "TelegraphDesk$Message" "types" "[I", Cond.methodLink RX1 35 yX0_typeIn, Cond.instanceMethod yX0_typeIn, Cond.selects RX0 yX0_typeIn yX0_typeIn, Cond.code yX0_typeIn cX0_typeIn 3 (some .int), Cond.fieldLink RX0 9 "TelegraphDesk$CodeBook" "types" "[I", Cond.methodLink RX2 63 yX0_wordsIn, Cond.methodLink RX2 66 yX2_takeIfBetter, Cond.instanceMethod yX2_takeIfBetter, Cond.selects RX2 yX2_takeIfBetter yX2_takeIfBetter, Cond.code yX2_takeIfBetter cX2_takeIfBetter 5 none, Cond.methodLink RX2 70 yX1_hasSameWords, Cond.instanceMethod yX1_hasSameWords, Cond.selects RX1 yX1_hasSameWords yX1_hasSameWords, Cond.code yX1_hasSameWords cX1_hasSameWords 5 (some .boolean), Cond.methodLink RX2 74 yX2_listStarts]
def wsX4_shorten_r4 : List Cond := [Cond.instanceMethod yX2_listStarts, Cond.selects RX2 yX2_listStarts yX2_listStarts, Cond.code yX2_listStarts cX2_listStarts 3 none, Cond.fieldLink RX2 24 "TelegraphDesk$Parting" "count" "I", Cond.fieldLink RX2 21 "TelegraphDesk$Parting" "starts" "[I"]
def wsX4_shorten : List Cond := .code yX4_shorten cX4_shorten 1 none :: ((wsX4_shorten_r1 ++ (wsX4_shorten_r2 ++ (wsX4_shorten_r3 ++ wsX4_shorten_r4))) ++ wsX40 ++ wsX20 ++ wsX10 ++ wsX00)
def wsX4_addCode_r1 : List Cond := [Cond.classLink RX4 48 "java/lang/IllegalArgumentException", Cond.initialized "java/lang/IllegalArgumentException", Cond.classLink RX4 66 "java/lang/IllegalStateException", Cond.initialized "java/lang/IllegalStateException", Cond.fieldLink RX4 10 "TelegraphDesk" "book" "LTelegraphDesk$CodeBook;", Cond.methodLink RX4 44 yX4_isType, Cond.static yX4_isType, Cond.initialized RX4, Cond.code yX4_isType cX4_isType 1 (some .boolean), Cond.methodLink RX4 55 yX4_isTypeOrNone, Cond.static yX4_isTypeOrNone, Cond.code yX4_isTypeOrNone cX4_isTypeOrNone 1 (some .boolean), Cond.methodLink RX4 62 yX0_isFull, Cond.instanceMethod yX0_isFull, Cond.selects RX0 yX0_isFull yX0_isFull, Cond.initialized RX0, Cond.code yX0_isFull cX0_isFull 1 (some .boolean), Cond.fieldLink RX0 18 "TelegraphDesk$CodeBook" "count" "I", Cond.methodLink RX4 71 yX0_holds, Cond.instanceMethod yX0_holds, Cond.selects RX0 yX0_holds yX0_holds, Cond.code yX0_holds cX0_holds 6 (some .boolean), Cond.methodLink RX0 26 yX0_typeIn, Cond.instanceMethod yX0_typeIn]
def wsX4_addCode_r2 : List Cond := [Cond.selects RX0 yX0_typeIn yX0_typeIn, Cond.code yX0_typeIn cX0_typeIn 3 (some .int), Cond.fieldLink RX0 9 "TelegraphDesk$CodeBook" "types" "[I", Cond.methodLink RX0 22 yX0_has, Cond.instanceMethod yX0_has, Cond.selects RX0 yX0_has yX0_has, Cond.code yX0_has cX0_has 2 (some .boolean), Cond.methodLink RX4 77 yX0_append, Cond.instanceMethod yX0_append, Cond.selects RX0 yX0_append yX0_append, Cond.code yX0_append cX0_append 6 none, Cond.fieldLink RX0 15 "TelegraphDesk$CodeBook" "lengths" "[I", Cond.methodLink RX0 30 yX0_isFull, Cond.methodLink RX4 81 yX4_shorten, Cond.instanceMethod yX4_shorten, Cond.selects RX4 yX4_shorten yX4_shorten, Cond.code yX4_shorten cX4_shorten 1 none, Cond.fieldLink RX4 26 "TelegraphDesk" "parting" "LTelegraphDesk$Parting;", Cond.fieldLink RX4 19 "TelegraphDesk" "message" "LTelegraphDesk$Message;", Cond.methodLink RX4 260 yX2_partAsIs, Cond.instanceMethod yX2_partAsIs, Cond.selects RX2 yX2_partAsIs yX2_partAsIs, Cond.initialized RX2, Cond.code yX2_partAsIs cX2_partAsIs 3 none]
def wsX4_addCode_r3 : List Cond := [Cond.methodLink RX2 36 yX2_part, Cond.instanceMethod yX2_part, Cond.selects RX2 yX2_part yX2_part, Cond.code yX2_part cX2_part 9 none, Cond.methodLink RX2 46 Lib.Math.min.name, Cond.static Lib.Math.min.name, Cond.initialized "java/lang/Math", Cond.code Lib.Math.min.name Lib.Math.min.code 2 (some .int), Cond.fieldLink RX2 9 "TelegraphDesk$Parting" "fewest" "[I", Cond.methodLink RX2 40 yX1_size, Cond.instanceMethod yX1_size, Cond.selects RX1 yX1_size yX1_size, Cond.initialized RX1, Cond.code yX1_size cX1_size 1 (some .int), Cond.fieldLink RX1 15 "TelegraphDesk$Message" "count" "I", Cond.methodLink RX2 52 yX2_takeWord, Cond.instanceMethod yX2_takeWord, Cond.selects RX2 yX2_takeWord yX2_takeWord, Cond.code yX2_takeWord cX2_takeWord 2 none, Cond.fieldLink RX2 15 "TelegraphDesk$Parting" "lengths" "[I", Cond.fieldLink RX2 18 "TelegraphDesk$Parting" "codes" "[I", Cond.methodLink RX2 56 yX0_size, Cond.instanceMethod yX0_size, Cond.selects RX0 yX0_size yX0_size]
def wsX4_addCode_r4 : List Cond := [Cond.code yX0_size cX0_size 1 (some .int), Cond.methodLink RX2 59 yX1_hasWordsOf, Cond.instanceMethod yX1_hasWordsOf, Cond.selects RX1 yX1_hasWordsOf yX1_hasWordsOf, Cond.code yX1_hasWordsOf cX1_hasWordsOf 6 (some .boolean), Cond.methodLink RX1 30 yX0_wordsIn, Cond.instanceMethod yX0_wordsIn, Cond.selects RX0 yX0_wordsIn yX0_wordsIn, Cond.code yX0_wordsIn cX0_wordsIn 2 (some .int), Cond.methodLink RX1 19 yX1_has, Cond.instanceMethod yX1_has, Cond.selects RX1 yX1_has yX1_has, Cond.code yX1_has cX1_has 2 (some .boolean), Cond.methodLink RX1 23 yX1_typeAt, Cond.instanceMethod yX1_typeAt, Cond.selects RX1 yX1_typeAt yX1_typeAt, Cond.code yX1_typeAt cX1_typeAt 2 (some .int), Cond.fieldLink RX1 9 "TelegraphDesk$Message" "types" "[I", Cond.methodLink RX1 35 yX0_typeIn, Cond.methodLink RX2 63 yX0_wordsIn, Cond.methodLink RX2 66 yX2_takeIfBetter, Cond.instanceMethod yX2_takeIfBetter, Cond.selects RX2 yX2_takeIfBetter yX2_takeIfBetter, Cond.code yX2_takeIfBetter cX2_takeIfBetter 5 none]
def wsX4_addCode_r5 : List Cond := [Cond.methodLink RX2 70 yX1_hasSameWords, Cond.instanceMethod yX1_hasSameWords, Cond.selects RX1 yX1_hasSameWords yX1_hasSameWords, Cond.code yX1_hasSameWords cX1_hasSameWords 5 (some .boolean), Cond.methodLink RX2 74 yX2_listStarts, Cond.instanceMethod yX2_listStarts, Cond.selects RX2 yX2_listStarts yX2_listStarts, Cond.code yX2_listStarts cX2_listStarts 3 none, Cond.fieldLink RX2 24 "TelegraphDesk$Parting" "count" "I", Cond.fieldLink RX2 21 "TelegraphDesk$Parting" "starts" "[I", Cond.methodLink RX4 84 yX0_size]
def wsX4_addCode : List Cond := .code yX4_addCode cX4_addCode 5 (some .int) :: ((wsX4_addCode_r1 ++ (wsX4_addCode_r2 ++ (wsX4_addCode_r3 ++ (wsX4_addCode_r4 ++ wsX4_addCode_r5)))) ++ wsX40 ++ wsX00 ++ wsX20 ++ wsX10 ++ (vx_atS RX4 52 "java/lang/IllegalArgumentException" ["java/lang/RuntimeException", "java/lang/Exception"]).filter goodWord ++ (vx_atS RX4 70 "java/lang/IllegalStateException" ["java/lang/RuntimeException", "java/lang/Exception"]).filter goodWord)
def wsX4_dropCode_r1 : List Cond := [Cond.classLink RX4 91 "java/lang/IndexOutOfBoundsException", Cond.initialized "java/lang/IndexOutOfBoundsException", Cond.fieldLink RX4 10 "TelegraphDesk" "book" "LTelegraphDesk$CodeBook;", Cond.methodLink RX4 88 yX0_has, Cond.instanceMethod yX0_has, Cond.selects RX0 yX0_has yX0_has, Cond.initialized RX0, Cond.code yX0_has cX0_has 2 (some .boolean), Cond.fieldLink RX0 18 "TelegraphDesk$CodeBook" "count" "I", Cond.methodLink RX4 96 yX0_wordsIn, Cond.instanceMethod yX0_wordsIn, Cond.selects RX0 yX0_wordsIn yX0_wordsIn, Cond.code yX0_wordsIn cX0_wordsIn 2 (some .int), Cond.fieldLink RX0 15 "TelegraphDesk$CodeBook" "lengths" "[I", Cond.methodLink RX0 22 yX0_has, Cond.methodLink RX4 100 yX0_remove, Cond.instanceMethod yX0_remove, Cond.selects RX0 yX0_remove yX0_remove, Cond.code yX0_remove cX0_remove 3 none, Cond.fieldLink RX0 9 "TelegraphDesk$CodeBook" "types" "[I", Cond.methodLink RX0 34 arraycopyName, Cond.native arraycopyName, Cond.static arraycopyName, Cond.initialized "java/lang/System"]
def wsX4_dropCode_r2 : List Cond := [Cond.methodLink RX4 81 yX4_shorten, Cond.instanceMethod yX4_shorten, Cond.selects RX4 yX4_shorten yX4_shorten, Cond.initialized RX4, Cond.code yX4_shorten cX4_shorten 1 none, Cond.fieldLink RX4 26 "TelegraphDesk" "parting" "LTelegraphDesk$Parting;", Cond.fieldLink RX4 19 "TelegraphDesk" "message" "LTelegraphDesk$Message;", Cond.methodLink RX4 260 yX2_partAsIs, Cond.instanceMethod yX2_partAsIs, Cond.selects RX2 yX2_partAsIs yX2_partAsIs, Cond.initialized RX2, Cond.code yX2_partAsIs cX2_partAsIs 3 none, Cond.methodLink RX2 36 yX2_part, Cond.instanceMethod yX2_part, Cond.selects RX2 yX2_part yX2_part, Cond.code yX2_part cX2_part 9 none, Cond.methodLink RX2 46 Lib.Math.min.name, Cond.static Lib.Math.min.name, Cond.initialized "java/lang/Math", Cond.code Lib.Math.min.name Lib.Math.min.code 2 (some .int), Cond.fieldLink RX2 9 "TelegraphDesk$Parting" "fewest" "[I", Cond.methodLink RX2 40 yX1_size, Cond.instanceMethod yX1_size, Cond.selects RX1 yX1_size yX1_size]
def wsX4_dropCode_r3 : List Cond := [Cond.initialized RX1, Cond.code yX1_size cX1_size 1 (some .int), Cond.fieldLink RX1 15 "TelegraphDesk$Message" "count" "I", Cond.methodLink RX2 52 yX2_takeWord, Cond.instanceMethod yX2_takeWord, Cond.selects RX2 yX2_takeWord yX2_takeWord, Cond.code yX2_takeWord cX2_takeWord 2 none, Cond.fieldLink RX2 15 "TelegraphDesk$Parting" "lengths" "[I", Cond.fieldLink RX2 18 "TelegraphDesk$Parting" "codes" "[I", Cond.methodLink RX2 56 yX0_size, Cond.instanceMethod yX0_size, Cond.selects RX0 yX0_size yX0_size, Cond.code yX0_size cX0_size 1 (some .int), Cond.methodLink RX2 59 yX1_hasWordsOf, Cond.instanceMethod yX1_hasWordsOf, Cond.selects RX1 yX1_hasWordsOf yX1_hasWordsOf, Cond.code yX1_hasWordsOf cX1_hasWordsOf 6 (some .boolean), Cond.methodLink RX1 30 yX0_wordsIn, Cond.methodLink RX1 19 yX1_has, Cond.instanceMethod yX1_has, Cond.selects RX1 yX1_has yX1_has, Cond.code yX1_has cX1_has 2 (some .boolean), Cond.methodLink RX1 23 yX1_typeAt, Cond.instanceMethod yX1_typeAt]
def wsX4_dropCode_r4 : List Cond := [Cond.selects RX1 yX1_typeAt yX1_typeAt, Cond.code yX1_typeAt cX1_typeAt 2 (some .int), Cond.fieldLink RX1 9 "TelegraphDesk$Message" "types" "[I", Cond.methodLink RX1 35 yX0_typeIn, Cond.instanceMethod yX0_typeIn, Cond.selects RX0 yX0_typeIn yX0_typeIn, Cond.code yX0_typeIn cX0_typeIn 3 (some .int), Cond.methodLink RX2 63 yX0_wordsIn, Cond.methodLink RX2 66 yX2_takeIfBetter, Cond.instanceMethod yX2_takeIfBetter, Cond.selects RX2 yX2_takeIfBetter yX2_takeIfBetter, Cond.code yX2_takeIfBetter cX2_takeIfBetter 5 none, Cond.methodLink RX2 70 yX1_hasSameWords, Cond.instanceMethod yX1_hasSameWords, Cond.selects RX1 yX1_hasSameWords yX1_hasSameWords, Cond.code yX1_hasSameWords cX1_hasSameWords 5 (some .boolean), Cond.methodLink RX2 74 yX2_listStarts, Cond.instanceMethod yX2_listStarts, Cond.selects RX2 yX2_listStarts yX2_listStarts, Cond.code yX2_listStarts cX2_listStarts 3 none, Cond.fieldLink RX2 24 "TelegraphDesk$Parting" "count" "I", Cond.fieldLink RX2 21 "TelegraphDesk$Parting" "starts" "[I"]
def wsX4_dropCode : List Cond := .code yX4_dropCode cX4_dropCode 3 (some .int) :: ((wsX4_dropCode_r1 ++ (wsX4_dropCode_r2 ++ (wsX4_dropCode_r3 ++ wsX4_dropCode_r4))) ++ wsX40 ++ wsX00 ++ wsX20 ++ wsX10 ++ (vx_atS RX4 95 "java/lang/IndexOutOfBoundsException" ["java/lang/RuntimeException", "java/lang/Exception"]).filter goodWord)
def wsX4_codes : List Cond := .code yX4_codes cX4_codes 1 (some .int) :: ([.fieldLink RX4 10 "TelegraphDesk" "book" "LTelegraphDesk$CodeBook;", .methodLink RX4 84 yX0_size, .instanceMethod yX0_size, .selects RX0 yX0_size yX0_size, .initialized RX0, .code yX0_size cX0_size 1 (some .int), .fieldLink RX0 18 "TelegraphDesk$CodeBook" "count" "I"] ++ wsX40 ++ wsX00)
def wsX4_lengthOf : List Cond := .code yX4_lengthOf cX4_lengthOf 2 (some .int) :: ([.classLink RX4 91 "java/lang/IndexOutOfBoundsException", .initialized "java/lang/IndexOutOfBoundsException", .fieldLink RX4 10 "TelegraphDesk" "book" "LTelegraphDesk$CodeBook;", .methodLink RX4 88 yX0_has, .instanceMethod yX0_has, .selects RX0 yX0_has yX0_has, .initialized RX0, .code yX0_has cX0_has 2 (some .boolean), .fieldLink RX0 18 "TelegraphDesk$CodeBook" "count" "I", .methodLink RX4 96 yX0_wordsIn, .instanceMethod yX0_wordsIn, .selects RX0 yX0_wordsIn yX0_wordsIn, .code yX0_wordsIn cX0_wordsIn 2 (some .int), .fieldLink RX0 15 "TelegraphDesk$CodeBook" "lengths" "[I", .methodLink RX0 22 yX0_has] ++ wsX40 ++ wsX00 ++ (vx_atS RX4 95 "java/lang/IndexOutOfBoundsException" ["java/lang/RuntimeException", "java/lang/Exception"]).filter goodWord)
def wsX4_write_r1 : List Cond := [Cond.classLink RX4 48 "java/lang/IllegalArgumentException", Cond.initialized "java/lang/IllegalArgumentException", Cond.classLink RX4 66 "java/lang/IllegalStateException", Cond.initialized "java/lang/IllegalStateException", Cond.fieldLink RX4 19 "TelegraphDesk" "message" "LTelegraphDesk$Message;", Cond.methodLink RX4 44 yX4_isType, Cond.static yX4_isType, Cond.initialized RX4, Cond.code yX4_isType cX4_isType 1 (some .boolean), Cond.methodLink RX4 106 yX1_isFull, Cond.instanceMethod yX1_isFull, Cond.selects RX1 yX1_isFull yX1_isFull, Cond.initialized RX1, Cond.code yX1_isFull cX1_isFull 1 (some .boolean), Cond.fieldLink RX1 15 "TelegraphDesk$Message" "count" "I", Cond.methodLink RX4 109 yX1_append, Cond.instanceMethod yX1_append, Cond.selects RX1 yX1_append yX1_append, Cond.code yX1_append cX1_append 2 none, Cond.fieldLink RX1 9 "TelegraphDesk$Message" "types" "[I", Cond.methodLink RX1 39 yX1_isFull, Cond.methodLink RX4 81 yX4_shorten, Cond.instanceMethod yX4_shorten, Cond.selects RX4 yX4_shorten yX4_shorten]
def wsX4_write_r2 : List Cond := [Cond.code yX4_shorten cX4_shorten 1 none, Cond.fieldLink RX4 26 "TelegraphDesk" "parting" "LTelegraphDesk$Parting;", Cond.fieldLink RX4 10 "TelegraphDesk" "book" "LTelegraphDesk$CodeBook;", Cond.methodLink RX4 260 yX2_partAsIs, Cond.instanceMethod yX2_partAsIs, Cond.selects RX2 yX2_partAsIs yX2_partAsIs, Cond.initialized RX2, Cond.code yX2_partAsIs cX2_partAsIs 3 none, Cond.methodLink RX2 36 yX2_part, Cond.instanceMethod yX2_part, Cond.selects RX2 yX2_part yX2_part, Cond.code yX2_part cX2_part 9 none, Cond.methodLink RX2 46 Lib.Math.min.name, Cond.static Lib.Math.min.name, Cond.initialized "java/lang/Math", Cond.code Lib.Math.min.name Lib.Math.min.code 2 (some .int), Cond.fieldLink RX2 9 "TelegraphDesk$Parting" "fewest" "[I", Cond.methodLink RX2 40 yX1_size, Cond.instanceMethod yX1_size, Cond.selects RX1 yX1_size yX1_size, Cond.code yX1_size cX1_size 1 (some .int), Cond.methodLink RX2 52 yX2_takeWord, Cond.instanceMethod yX2_takeWord, Cond.selects RX2 yX2_takeWord yX2_takeWord]
def wsX4_write_r3 : List Cond := [Cond.code yX2_takeWord cX2_takeWord 2 none, Cond.fieldLink RX2 15 "TelegraphDesk$Parting" "lengths" "[I", Cond.fieldLink RX2 18 "TelegraphDesk$Parting" "codes" "[I", Cond.methodLink RX2 56 yX0_size, Cond.instanceMethod yX0_size, Cond.selects RX0 yX0_size yX0_size, Cond.initialized RX0, Cond.code yX0_size cX0_size 1 (some .int), Cond.fieldLink RX0 18 "TelegraphDesk$CodeBook" "count" "I", Cond.methodLink RX2 59 yX1_hasWordsOf, Cond.instanceMethod yX1_hasWordsOf, Cond.selects RX1 yX1_hasWordsOf yX1_hasWordsOf, Cond.code yX1_hasWordsOf cX1_hasWordsOf 6 (some .boolean), Cond.methodLink RX1 30 yX0_wordsIn, Cond.instanceMethod yX0_wordsIn, Cond.selects RX0 yX0_wordsIn yX0_wordsIn, Cond.code yX0_wordsIn cX0_wordsIn 2 (some .int), Cond.fieldLink RX0 15 "TelegraphDesk$CodeBook" "lengths" "[I", Cond.methodLink RX0 22 yX0_has, Cond.instanceMethod yX0_has, Cond.selects RX0 yX0_has yX0_has, Cond.code yX0_has cX0_has 2 (some .boolean), Cond.methodLink RX1 19 yX1_has, Cond.instanceMethod yX1_has]
def wsX4_write_r4 : List Cond := [Cond.selects RX1 yX1_has yX1_has, Cond.code yX1_has cX1_has 2 (some .boolean), Cond.methodLink RX1 23 yX1_typeAt, Cond.instanceMethod yX1_typeAt, Cond.selects RX1 yX1_typeAt yX1_typeAt, Cond.code yX1_typeAt cX1_typeAt 2 (some .int), Cond.methodLink RX1 35 yX0_typeIn, Cond.instanceMethod yX0_typeIn, Cond.selects RX0 yX0_typeIn yX0_typeIn, Cond.code yX0_typeIn cX0_typeIn 3 (some .int), Cond.fieldLink RX0 9 "TelegraphDesk$CodeBook" "types" "[I", Cond.methodLink RX2 63 yX0_wordsIn, Cond.methodLink RX2 66 yX2_takeIfBetter, Cond.instanceMethod yX2_takeIfBetter, Cond.selects RX2 yX2_takeIfBetter yX2_takeIfBetter, Cond.code yX2_takeIfBetter cX2_takeIfBetter 5 none, Cond.methodLink RX2 70 yX1_hasSameWords, Cond.instanceMethod yX1_hasSameWords, Cond.selects RX1 yX1_hasSameWords yX1_hasSameWords, Cond.code yX1_hasSameWords cX1_hasSameWords 5 (some .boolean), Cond.methodLink RX2 74 yX2_listStarts, Cond.instanceMethod yX2_listStarts, Cond.selects RX2 yX2_listStarts yX2_listStarts, Cond.code yX2_listStarts cX2_listStarts 3 none]
def wsX4_write_r5 : List Cond := [Cond.fieldLink RX2 24 "TelegraphDesk$Parting" "count" "I", Cond.fieldLink RX2 21 "TelegraphDesk$Parting" "starts" "[I", Cond.methodLink RX4 111 yX1_size]
def wsX4_write : List Cond := .code yX4_write cX4_write 2 (some .int) :: ((wsX4_write_r1 ++ (wsX4_write_r2 ++ (wsX4_write_r3 ++ (wsX4_write_r4 ++ wsX4_write_r5)))) ++ wsX40 ++ wsX10 ++ wsX20 ++ wsX00 ++ (vx_atS RX4 52 "java/lang/IllegalArgumentException" ["java/lang/RuntimeException", "java/lang/Exception"]).filter goodWord ++ (vx_atS RX4 70 "java/lang/IllegalStateException" ["java/lang/RuntimeException", "java/lang/Exception"]).filter goodWord)
def wsX4_strike_r1 : List Cond := [Cond.classLink RX4 66 "java/lang/IllegalStateException", Cond.initialized "java/lang/IllegalStateException", Cond.fieldLink RX4 19 "TelegraphDesk" "message" "LTelegraphDesk$Message;", Cond.methodLink RX4 111 yX1_size, Cond.instanceMethod yX1_size, Cond.selects RX1 yX1_size yX1_size, Cond.initialized RX1, Cond.code yX1_size cX1_size 1 (some .int), Cond.fieldLink RX1 15 "TelegraphDesk$Message" "count" "I", Cond.methodLink RX4 114 yX1_typeAt, Cond.instanceMethod yX1_typeAt, Cond.selects RX1 yX1_typeAt yX1_typeAt, Cond.code yX1_typeAt cX1_typeAt 2 (some .int), Cond.fieldLink RX1 9 "TelegraphDesk$Message" "types" "[I", Cond.methodLink RX1 19 yX1_has, Cond.instanceMethod yX1_has, Cond.selects RX1 yX1_has yX1_has, Cond.code yX1_has cX1_has 2 (some .boolean), Cond.methodLink RX4 117 yX1_removeLast, Cond.instanceMethod yX1_removeLast, Cond.selects RX1 yX1_removeLast yX1_removeLast, Cond.code yX1_removeLast cX1_removeLast 1 none, Cond.methodLink RX1 43 Lib.Math.max.name, Cond.static Lib.Math.max.name]
def wsX4_strike_r2 : List Cond := [Cond.initialized "java/lang/Math", Cond.code Lib.Math.max.name Lib.Math.max.code 2 (some .int), Cond.methodLink RX4 81 yX4_shorten, Cond.instanceMethod yX4_shorten, Cond.selects RX4 yX4_shorten yX4_shorten, Cond.initialized RX4, Cond.code yX4_shorten cX4_shorten 1 none, Cond.fieldLink RX4 26 "TelegraphDesk" "parting" "LTelegraphDesk$Parting;", Cond.fieldLink RX4 10 "TelegraphDesk" "book" "LTelegraphDesk$CodeBook;", Cond.methodLink RX4 260 yX2_partAsIs, Cond.instanceMethod yX2_partAsIs, Cond.selects RX2 yX2_partAsIs yX2_partAsIs, Cond.initialized RX2, Cond.code yX2_partAsIs cX2_partAsIs 3 none, Cond.methodLink RX2 36 yX2_part, Cond.instanceMethod yX2_part, Cond.selects RX2 yX2_part yX2_part, Cond.code yX2_part cX2_part 9 none, Cond.methodLink RX2 46 Lib.Math.min.name, Cond.static Lib.Math.min.name, Cond.code Lib.Math.min.name Lib.Math.min.code 2 (some .int), Cond.fieldLink RX2 9 "TelegraphDesk$Parting" "fewest" "[I", Cond.methodLink RX2 40 yX1_size, Cond.methodLink RX2 52 yX2_takeWord]
def wsX4_strike_r3 : List Cond := [Cond.instanceMethod yX2_takeWord, Cond.selects RX2 yX2_takeWord yX2_takeWord, Cond.code yX2_takeWord cX2_takeWord 2 none, Cond.fieldLink RX2 15 "TelegraphDesk$Parting" "lengths" "[I", Cond.fieldLink RX2 18 "TelegraphDesk$Parting" "codes" "[I", Cond.methodLink RX2 56 yX0_size, Cond.instanceMethod yX0_size, Cond.selects RX0 yX0_size yX0_size, Cond.initialized RX0, Cond.code yX0_size cX0_size 1 (some .int), Cond.fieldLink RX0 18 "TelegraphDesk$CodeBook" "count" "I", Cond.methodLink RX2 59 yX1_hasWordsOf, Cond.instanceMethod yX1_hasWordsOf, Cond.selects RX1 yX1_hasWordsOf yX1_hasWordsOf, Cond.code yX1_hasWordsOf cX1_hasWordsOf 6 (some .boolean), Cond.methodLink RX1 30 yX0_wordsIn, Cond.instanceMethod yX0_wordsIn, Cond.selects RX0 yX0_wordsIn yX0_wordsIn, Cond.code yX0_wordsIn cX0_wordsIn 2 (some .int), Cond.fieldLink RX0 15 "TelegraphDesk$CodeBook" "lengths" "[I", Cond.methodLink RX0 22 yX0_has, Cond.instanceMethod yX0_has, Cond.selects RX0 yX0_has yX0_has, Cond.code yX0_has cX0_has 2 (some .boolean)]
def wsX4_strike_r4 : List Cond := [Cond.methodLink RX1 23 yX1_typeAt, Cond.methodLink RX1 35 yX0_typeIn, Cond.instanceMethod yX0_typeIn, Cond.selects RX0 yX0_typeIn yX0_typeIn, Cond.code yX0_typeIn cX0_typeIn 3 (some .int), Cond.fieldLink RX0 9 "TelegraphDesk$CodeBook" "types" "[I", Cond.methodLink RX2 63 yX0_wordsIn, Cond.methodLink RX2 66 yX2_takeIfBetter, Cond.instanceMethod yX2_takeIfBetter, Cond.selects RX2 yX2_takeIfBetter yX2_takeIfBetter, Cond.code yX2_takeIfBetter cX2_takeIfBetter 5 none, Cond.methodLink RX2 70 yX1_hasSameWords, Cond.instanceMethod yX1_hasSameWords, Cond.selects RX1 yX1_hasSameWords yX1_hasSameWords, Cond.code yX1_hasSameWords cX1_hasSameWords 5 (some .boolean), Cond.methodLink RX2 74 yX2_listStarts, Cond.instanceMethod yX2_listStarts, Cond.selects RX2 yX2_listStarts yX2_listStarts, Cond.code yX2_listStarts cX2_listStarts 3 none, Cond.fieldLink RX2 24 "TelegraphDesk$Parting" "count" "I", Cond.fieldLink RX2 21 "TelegraphDesk$Parting" "starts" "[I"]
def wsX4_strike : List Cond := .code yX4_strike cX4_strike 2 (some .int) :: ((wsX4_strike_r1 ++ (wsX4_strike_r2 ++ (wsX4_strike_r3 ++ wsX4_strike_r4))) ++ wsX40 ++ wsX10 ++ wsX20 ++ wsX00 ++ (vx_atS RX4 70 "java/lang/IllegalStateException" ["java/lang/RuntimeException", "java/lang/Exception"]).filter goodWord)
def wsX4_clear_r1 : List Cond := [Cond.fieldLink RX4 19 "TelegraphDesk" "message" "LTelegraphDesk$Message;", Cond.methodLink RX4 111 yX1_size, Cond.instanceMethod yX1_size, Cond.selects RX1 yX1_size yX1_size, Cond.initialized RX1, Cond.code yX1_size cX1_size 1 (some .int), Cond.fieldLink RX1 15 "TelegraphDesk$Message" "count" "I", Cond.methodLink RX4 120 yX1_removeAll, Cond.instanceMethod yX1_removeAll, Cond.selects RX1 yX1_removeAll yX1_removeAll, Cond.code yX1_removeAll cX1_removeAll 1 none, Cond.methodLink RX4 81 yX4_shorten, Cond.instanceMethod yX4_shorten, Cond.selects RX4 yX4_shorten yX4_shorten, Cond.initialized RX4, Cond.code yX4_shorten cX4_shorten 1 none, Cond.fieldLink RX4 26 "TelegraphDesk" "parting" "LTelegraphDesk$Parting;", Cond.fieldLink RX4 10 "TelegraphDesk" "book" "LTelegraphDesk$CodeBook;", Cond.methodLink RX4 260 yX2_partAsIs, Cond.instanceMethod yX2_partAsIs, Cond.selects RX2 yX2_partAsIs yX2_partAsIs, Cond.initialized RX2, Cond.code yX2_partAsIs cX2_partAsIs 3 none, Cond.methodLink RX2 36 yX2_part]
def wsX4_clear_r2 : List Cond := [Cond.instanceMethod yX2_part, Cond.selects RX2 yX2_part yX2_part, Cond.code yX2_part cX2_part 9 none, Cond.methodLink RX2 46 Lib.Math.min.name, Cond.static Lib.Math.min.name, Cond.initialized "java/lang/Math", Cond.code Lib.Math.min.name Lib.Math.min.code 2 (some .int), Cond.fieldLink RX2 9 "TelegraphDesk$Parting" "fewest" "[I", Cond.methodLink RX2 40 yX1_size, Cond.methodLink RX2 52 yX2_takeWord, Cond.instanceMethod yX2_takeWord, Cond.selects RX2 yX2_takeWord yX2_takeWord, Cond.code yX2_takeWord cX2_takeWord 2 none, Cond.fieldLink RX2 15 "TelegraphDesk$Parting" "lengths" "[I", Cond.fieldLink RX2 18 "TelegraphDesk$Parting" "codes" "[I", Cond.methodLink RX2 56 yX0_size, Cond.instanceMethod yX0_size, Cond.selects RX0 yX0_size yX0_size, Cond.initialized RX0, Cond.code yX0_size cX0_size 1 (some .int), Cond.fieldLink RX0 18 "TelegraphDesk$CodeBook" "count" "I", Cond.methodLink RX2 59 yX1_hasWordsOf, Cond.instanceMethod yX1_hasWordsOf, Cond.selects RX1 yX1_hasWordsOf yX1_hasWordsOf]
def wsX4_clear_r3 : List Cond := [Cond.code yX1_hasWordsOf cX1_hasWordsOf 6 (some .boolean), Cond.methodLink RX1 30 yX0_wordsIn, Cond.instanceMethod yX0_wordsIn, Cond.selects RX0 yX0_wordsIn yX0_wordsIn, Cond.code yX0_wordsIn cX0_wordsIn 2 (some .int), Cond.fieldLink RX0 15 "TelegraphDesk$CodeBook" "lengths" "[I", Cond.methodLink RX0 22 yX0_has, Cond.instanceMethod yX0_has, Cond.selects RX0 yX0_has yX0_has, Cond.code yX0_has cX0_has 2 (some .boolean), Cond.methodLink RX1 19 yX1_has, Cond.instanceMethod yX1_has, Cond.selects RX1 yX1_has yX1_has, Cond.code yX1_has cX1_has 2 (some .boolean), Cond.methodLink RX1 23 yX1_typeAt, Cond.instanceMethod yX1_typeAt, Cond.selects RX1 yX1_typeAt yX1_typeAt, Cond.code yX1_typeAt cX1_typeAt 2 (some .int), Cond.fieldLink RX1 9 "TelegraphDesk$Message" "types" "[I", Cond.methodLink RX1 35 yX0_typeIn, Cond.instanceMethod yX0_typeIn, Cond.selects RX0 yX0_typeIn yX0_typeIn, Cond.code yX0_typeIn cX0_typeIn 3 (some .int), Cond.fieldLink RX0 9 "TelegraphDesk$CodeBook" "types" "[I"]
def wsX4_clear_r4 : List Cond := [Cond.methodLink RX2 63 yX0_wordsIn, Cond.methodLink RX2 66 yX2_takeIfBetter, Cond.instanceMethod yX2_takeIfBetter, Cond.selects RX2 yX2_takeIfBetter yX2_takeIfBetter, Cond.code yX2_takeIfBetter cX2_takeIfBetter 5 none, Cond.methodLink RX2 70 yX1_hasSameWords, Cond.instanceMethod yX1_hasSameWords, Cond.selects RX1 yX1_hasSameWords yX1_hasSameWords, Cond.code yX1_hasSameWords cX1_hasSameWords 5 (some .boolean), Cond.methodLink RX2 74 yX2_listStarts, Cond.instanceMethod yX2_listStarts, Cond.selects RX2 yX2_listStarts yX2_listStarts, Cond.code yX2_listStarts cX2_listStarts 3 none, Cond.fieldLink RX2 24 "TelegraphDesk$Parting" "count" "I", Cond.fieldLink RX2 21 "TelegraphDesk$Parting" "starts" "[I"]
def wsX4_clear : List Cond := .code yX4_clear cX4_clear 2 (some .int) :: ((wsX4_clear_r1 ++ (wsX4_clear_r2 ++ (wsX4_clear_r3 ++ wsX4_clear_r4))) ++ wsX40 ++ wsX10 ++ wsX20 ++ wsX00)
def wsX4_words : List Cond := .code yX4_words cX4_words 1 (some .int) :: ([.fieldLink RX4 19 "TelegraphDesk" "message" "LTelegraphDesk$Message;", .methodLink RX4 111 yX1_size, .instanceMethod yX1_size, .selects RX1 yX1_size yX1_size, .initialized RX1, .code yX1_size cX1_size 1 (some .int), .fieldLink RX1 15 "TelegraphDesk$Message" "count" "I"] ++ wsX40 ++ wsX10)
def wsX4_typeOf : List Cond := .code yX4_typeOf cX4_typeOf 2 (some .int) :: ([.classLink RX4 91 "java/lang/IndexOutOfBoundsException", .initialized "java/lang/IndexOutOfBoundsException", .fieldLink RX4 19 "TelegraphDesk" "message" "LTelegraphDesk$Message;", .methodLink RX4 123 yX1_has, .instanceMethod yX1_has, .selects RX1 yX1_has yX1_has, .initialized RX1, .code yX1_has cX1_has 2 (some .boolean), .fieldLink RX1 15 "TelegraphDesk$Message" "count" "I", .methodLink RX4 114 yX1_typeAt, .instanceMethod yX1_typeAt, .selects RX1 yX1_typeAt yX1_typeAt, .code yX1_typeAt cX1_typeAt 2 (some .int), .fieldLink RX1 9 "TelegraphDesk$Message" "types" "[I", .methodLink RX1 19 yX1_has] ++ wsX40 ++ wsX10 ++ (vx_atS RX4 95 "java/lang/IndexOutOfBoundsException" ["java/lang/RuntimeException", "java/lang/Exception"]).filter goodWord)
def wsX4_groups : List Cond := .code yX4_groups cX4_groups 1 (some .int) :: ([.fieldLink RX4 26 "TelegraphDesk" "parting" "LTelegraphDesk$Parting;", .methodLink RX4 126 yX2_size, .instanceMethod yX2_size, .selects RX2 yX2_size yX2_size, .initialized RX2, .code yX2_size cX2_size 1 (some .int), .fieldLink RX2 24 "TelegraphDesk$Parting" "count" "I"] ++ wsX40 ++ wsX20)
def wsX4_codeOf : List Cond := .code yX4_codeOf cX4_codeOf 2 (some .int) :: ([.classLink RX4 91 "java/lang/IndexOutOfBoundsException", .initialized "java/lang/IndexOutOfBoundsException", .fieldLink RX4 26 "TelegraphDesk" "parting" "LTelegraphDesk$Parting;", .methodLink RX4 127 yX2_has, .instanceMethod yX2_has, .selects RX2 yX2_has yX2_has, .initialized RX2, .code yX2_has cX2_has 2 (some .boolean), .fieldLink RX2 24 "TelegraphDesk$Parting" "count" "I", .methodLink RX4 130 yX2_codeAt, .instanceMethod yX2_codeAt, .selects RX2 yX2_codeAt yX2_codeAt, .code yX2_codeAt cX2_codeAt 2 (some .int), .fieldLink RX2 18 "TelegraphDesk$Parting" "codes" "[I", .fieldLink RX2 21 "TelegraphDesk$Parting" "starts" "[I", .methodLink RX2 28 yX2_has] ++ wsX40 ++ wsX20 ++ (vx_atS RX4 95 "java/lang/IndexOutOfBoundsException" ["java/lang/RuntimeException", "java/lang/Exception"]).filter goodWord)
def wsX4_startOf : List Cond := .code yX4_startOf cX4_startOf 2 (some .int) :: ([.classLink RX4 91 "java/lang/IndexOutOfBoundsException", .initialized "java/lang/IndexOutOfBoundsException", .fieldLink RX4 26 "TelegraphDesk" "parting" "LTelegraphDesk$Parting;", .methodLink RX4 127 yX2_has, .instanceMethod yX2_has, .selects RX2 yX2_has yX2_has, .initialized RX2, .code yX2_has cX2_has 2 (some .boolean), .fieldLink RX2 24 "TelegraphDesk$Parting" "count" "I", .methodLink RX4 133 yX2_startAt, .instanceMethod yX2_startAt, .selects RX2 yX2_startAt yX2_startAt, .code yX2_startAt cX2_startAt 2 (some .int), .fieldLink RX2 21 "TelegraphDesk$Parting" "starts" "[I", .methodLink RX2 28 yX2_has] ++ wsX40 ++ wsX20 ++ (vx_atS RX4 95 "java/lang/IndexOutOfBoundsException" ["java/lang/RuntimeException", "java/lang/Exception"]).filter goodWord)
def wsX4_usesOf_r1 : List Cond := [Cond.classLink RX4 91 "java/lang/IndexOutOfBoundsException", Cond.initialized "java/lang/IndexOutOfBoundsException", Cond.fieldLink RX4 10 "TelegraphDesk" "book" "LTelegraphDesk$CodeBook;", Cond.fieldLink RX4 26 "TelegraphDesk" "parting" "LTelegraphDesk$Parting;", Cond.methodLink RX4 88 yX0_has, Cond.instanceMethod yX0_has, Cond.selects RX0 yX0_has yX0_has, Cond.initialized RX0, Cond.code yX0_has cX0_has 2 (some .boolean), Cond.fieldLink RX0 18 "TelegraphDesk$CodeBook" "count" "I", Cond.methodLink RX4 136 yX2_groupsWith, Cond.instanceMethod yX2_groupsWith, Cond.selects RX2 yX2_groupsWith yX2_groupsWith, Cond.initialized RX2, Cond.code yX2_groupsWith cX2_groupsWith 4 (some .int), Cond.fieldLink RX2 24 "TelegraphDesk$Parting" "count" "I", Cond.methodLink RX2 32 yX2_codeAt, Cond.instanceMethod yX2_codeAt, Cond.selects RX2 yX2_codeAt yX2_codeAt, Cond.code yX2_codeAt cX2_codeAt 2 (some .int), Cond.fieldLink RX2 18 "TelegraphDesk$Parting" "codes" "[I", Cond.fieldLink RX2 21 "TelegraphDesk$Parting" "starts" "[I", Cond.methodLink RX2 28 yX2_has, Cond.instanceMethod yX2_has]
def wsX4_usesOf_r2 : List Cond := [Cond.selects RX2 yX2_has yX2_has, Cond.code yX2_has cX2_has 2 (some .boolean)]
def wsX4_usesOf : List Cond := .code yX4_usesOf cX4_usesOf 2 (some .int) :: ((wsX4_usesOf_r1 ++ wsX4_usesOf_r2) ++ wsX40 ++ wsX00 ++ wsX20 ++ (vx_atS RX4 95 "java/lang/IndexOutOfBoundsException" ["java/lang/RuntimeException", "java/lang/Exception"]).filter goodWord)
def wsX4_counted_r1 : List Cond := [Cond.fieldLink RX4 26 "TelegraphDesk" "parting" "LTelegraphDesk$Parting;", Cond.fieldLink RX4 19 "TelegraphDesk" "message" "LTelegraphDesk$Message;", Cond.methodLink RX4 126 yX2_size, Cond.instanceMethod yX2_size, Cond.selects RX2 yX2_size yX2_size, Cond.initialized RX2, Cond.code yX2_size cX2_size 1 (some .int), Cond.fieldLink RX2 24 "TelegraphDesk$Parting" "count" "I", Cond.methodLink RX4 130 yX2_codeAt, Cond.instanceMethod yX2_codeAt, Cond.selects RX2 yX2_codeAt yX2_codeAt, Cond.code yX2_codeAt cX2_codeAt 2 (some .int), Cond.fieldLink RX2 18 "TelegraphDesk$Parting" "codes" "[I", Cond.fieldLink RX2 21 "TelegraphDesk$Parting" "starts" "[I", Cond.methodLink RX2 28 yX2_has, Cond.instanceMethod yX2_has, Cond.selects RX2 yX2_has yX2_has, Cond.code yX2_has cX2_has 2 (some .boolean), Cond.methodLink RX4 133 yX2_startAt, Cond.instanceMethod yX2_startAt, Cond.selects RX2 yX2_startAt yX2_startAt, Cond.code yX2_startAt cX2_startAt 2 (some .int), Cond.methodLink RX4 139 yX1_countOf, Cond.instanceMethod yX1_countOf]
def wsX4_counted_r2 : List Cond := [Cond.selects RX1 yX1_countOf yX1_countOf, Cond.initialized RX1, Cond.code yX1_countOf cX1_countOf 2 (some .int), Cond.methodLink RX1 23 yX1_typeAt, Cond.instanceMethod yX1_typeAt, Cond.selects RX1 yX1_typeAt yX1_typeAt, Cond.code yX1_typeAt cX1_typeAt 2 (some .int), Cond.fieldLink RX1 9 "TelegraphDesk$Message" "types" "[I", Cond.methodLink RX1 19 yX1_has, Cond.instanceMethod yX1_has, Cond.selects RX1 yX1_has yX1_has, Cond.code yX1_has cX1_has 2 (some .boolean), Cond.fieldLink RX1 15 "TelegraphDesk$Message" "count" "I"]
def wsX4_counted : List Cond := .code yX4_counted cX4_counted 4 (some .int) :: ((wsX4_counted_r1 ++ wsX4_counted_r2) ++ wsX40 ++ wsX20 ++ wsX10)
def wsX4_costOf : List Cond := .code yX4_costOf cX4_costOf 2 (some .int) :: ([.fieldLink RX4 19 "TelegraphDesk" "message" "LTelegraphDesk$Message;", .methodLink RX4 254 Lib.Math.max.name, .static Lib.Math.max.name, .initialized "java/lang/Math", .code Lib.Math.max.name Lib.Math.max.code 2 (some .int), .methodLink RX4 111 yX1_size, .instanceMethod yX1_size, .selects RX1 yX1_size yX1_size, .initialized RX1, .code yX1_size cX1_size 1 (some .int), .fieldLink RX1 15 "TelegraphDesk$Message" "count" "I"] ++ wsX40 ++ wsX10)
def wsX4_cost_r1 : List Cond := [Cond.methodLink RX4 142 yX4_counted, Cond.instanceMethod yX4_counted, Cond.selects RX4 yX4_counted yX4_counted, Cond.initialized RX4, Cond.code yX4_counted cX4_counted 4 (some .int), Cond.fieldLink RX4 26 "TelegraphDesk" "parting" "LTelegraphDesk$Parting;", Cond.fieldLink RX4 19 "TelegraphDesk" "message" "LTelegraphDesk$Message;", Cond.methodLink RX4 126 yX2_size, Cond.instanceMethod yX2_size, Cond.selects RX2 yX2_size yX2_size, Cond.initialized RX2, Cond.code yX2_size cX2_size 1 (some .int), Cond.fieldLink RX2 24 "TelegraphDesk$Parting" "count" "I", Cond.methodLink RX4 130 yX2_codeAt, Cond.instanceMethod yX2_codeAt, Cond.selects RX2 yX2_codeAt yX2_codeAt, Cond.code yX2_codeAt cX2_codeAt 2 (some .int), Cond.fieldLink RX2 18 "TelegraphDesk$Parting" "codes" "[I", Cond.fieldLink RX2 21 "TelegraphDesk$Parting" "starts" "[I", Cond.methodLink RX2 28 yX2_has, Cond.instanceMethod yX2_has, Cond.selects RX2 yX2_has yX2_has, Cond.code yX2_has cX2_has 2 (some .boolean), Cond.methodLink RX4 133 yX2_startAt]
def wsX4_cost_r2 : List Cond := [Cond.instanceMethod yX2_startAt, Cond.selects RX2 yX2_startAt yX2_startAt, Cond.code yX2_startAt cX2_startAt 2 (some .int), Cond.methodLink RX4 139 yX1_countOf, Cond.instanceMethod yX1_countOf, Cond.selects RX1 yX1_countOf yX1_countOf, Cond.initialized RX1, Cond.code yX1_countOf cX1_countOf 2 (some .int), Cond.methodLink RX1 23 yX1_typeAt, Cond.instanceMethod yX1_typeAt, Cond.selects RX1 yX1_typeAt yX1_typeAt, Cond.code yX1_typeAt cX1_typeAt 2 (some .int), Cond.fieldLink RX1 9 "TelegraphDesk$Message" "types" "[I", Cond.methodLink RX1 19 yX1_has, Cond.instanceMethod yX1_has, Cond.selects RX1 yX1_has yX1_has, Cond.code yX1_has cX1_has 2 (some .boolean), Cond.fieldLink RX1 15 "TelegraphDesk$Message" "count" "I", Cond.methodLink RX4 145 yX4_costOf, Cond.instanceMethod yX4_costOf, Cond.selects RX4 yX4_costOf yX4_costOf, Cond.code yX4_costOf cX4_costOf 2 (some .int), Cond.methodLink RX4 254 Lib.Math.max.name, Cond.static Lib.Math.max.name]
def wsX4_cost_r3 : List Cond := [Cond.initialized "java/lang/Math", Cond.code Lib.Math.max.name Lib.Math.max.code 2 (some .int), Cond.methodLink RX4 111 yX1_size, Cond.instanceMethod yX1_size, Cond.selects RX1 yX1_size yX1_size, Cond.code yX1_size cX1_size 1 (some .int)]
def wsX4_cost : List Cond := .code yX4_cost cX4_cost 1 (some .int) :: ((wsX4_cost_r1 ++ (wsX4_cost_r2 ++ wsX4_cost_r3)) ++ wsX40 ++ wsX20 ++ wsX10)
def wsX4_saved_r1 : List Cond := [Cond.fieldLink RX4 19 "TelegraphDesk" "message" "LTelegraphDesk$Message;", Cond.methodLink RX4 148 yX1_countOfAll, Cond.instanceMethod yX1_countOfAll, Cond.selects RX1 yX1_countOfAll yX1_countOfAll, Cond.initialized RX1, Cond.code yX1_countOfAll cX1_countOfAll 3 (some .int), Cond.fieldLink RX1 15 "TelegraphDesk$Message" "count" "I", Cond.methodLink RX1 27 yX1_countOf, Cond.instanceMethod yX1_countOf, Cond.selects RX1 yX1_countOf yX1_countOf, Cond.code yX1_countOf cX1_countOf 2 (some .int), Cond.methodLink RX1 23 yX1_typeAt, Cond.instanceMethod yX1_typeAt, Cond.selects RX1 yX1_typeAt yX1_typeAt, Cond.code yX1_typeAt cX1_typeAt 2 (some .int), Cond.fieldLink RX1 9 "TelegraphDesk$Message" "types" "[I", Cond.methodLink RX1 19 yX1_has, Cond.instanceMethod yX1_has, Cond.selects RX1 yX1_has yX1_has, Cond.code yX1_has cX1_has 2 (some .boolean), Cond.methodLink RX4 145 yX4_costOf, Cond.instanceMethod yX4_costOf, Cond.selects RX4 yX4_costOf yX4_costOf, Cond.initialized RX4]
def wsX4_saved_r2 : List Cond := [Cond.code yX4_costOf cX4_costOf 2 (some .int), Cond.methodLink RX4 254 Lib.Math.max.name, Cond.static Lib.Math.max.name, Cond.initialized "java/lang/Math", Cond.code Lib.Math.max.name Lib.Math.max.code 2 (some .int), Cond.methodLink RX4 111 yX1_size, Cond.instanceMethod yX1_size, Cond.selects RX1 yX1_size yX1_size, Cond.code yX1_size cX1_size 1 (some .int), Cond.methodLink RX4 151 yX4_cost, Cond.instanceMethod yX4_cost, Cond.selects RX4 yX4_cost yX4_cost, Cond.code yX4_cost cX4_cost 1 (some .int), Cond.methodLink RX4 142 yX4_counted, Cond.instanceMethod yX4_counted, Cond.selects RX4 yX4_counted yX4_counted, Cond.code yX4_counted cX4_counted 4 (some .int), Cond.fieldLink RX4 26 "TelegraphDesk" "parting" "LTelegraphDesk$Parting;", Cond.methodLink RX4 126 yX2_size, Cond.instanceMethod yX2_size, Cond.selects RX2 yX2_size yX2_size, Cond.initialized RX2, Cond.code yX2_size cX2_size 1 (some .int), Cond.fieldLink RX2 24 "TelegraphDesk$Parting" "count" "I"]
def wsX4_saved_r3 : List Cond := [Cond.methodLink RX4 130 yX2_codeAt, Cond.instanceMethod yX2_codeAt, Cond.selects RX2 yX2_codeAt yX2_codeAt, Cond.code yX2_codeAt cX2_codeAt 2 (some .int), Cond.fieldLink RX2 18 "TelegraphDesk$Parting" "codes" "[I", Cond.fieldLink RX2 21 "TelegraphDesk$Parting" "starts" "[I", Cond.methodLink RX2 28 yX2_has, Cond.instanceMethod yX2_has, Cond.selects RX2 yX2_has yX2_has, Cond.code yX2_has cX2_has 2 (some .boolean), Cond.methodLink RX4 133 yX2_startAt, Cond.instanceMethod yX2_startAt, Cond.selects RX2 yX2_startAt yX2_startAt, Cond.code yX2_startAt cX2_startAt 2 (some .int), Cond.methodLink RX4 139 yX1_countOf]
def wsX4_saved : List Cond := .code yX4_saved cX4_saved 1 (some .int) :: ((wsX4_saved_r1 ++ (wsX4_saved_r2 ++ wsX4_saved_r3)) ++ wsX40 ++ wsX10 ++ wsX20)
def wsX4_setQuality : List Cond := .code yX4_setQuality cX4_setQuality 3 (some .int) :: ([.classLink RX4 48 "java/lang/IllegalArgumentException", .initialized "java/lang/IllegalArgumentException", .fieldLink RX4 40 "TelegraphDesk" "quality" "I"] ++ wsX40 ++ (vx_atS RX4 52 "java/lang/IllegalArgumentException" ["java/lang/RuntimeException", "java/lang/Exception"]).filter goodWord)
def wsX4_send_r1 : List Cond := [Cond.classLink RX4 66 "java/lang/IllegalStateException", Cond.initialized "java/lang/IllegalStateException", Cond.fieldLink RX4 19 "TelegraphDesk" "message" "LTelegraphDesk$Message;", Cond.fieldLink RX4 156 "TelegraphDesk" "earned" "I", Cond.fieldLink RX4 36 "TelegraphDesk" "passage" "LTelegraphDesk$Passage;", Cond.fieldLink RX4 26 "TelegraphDesk" "parting" "LTelegraphDesk$Parting;", Cond.fieldLink RX4 159 "TelegraphDesk" "sentGroups" "I", Cond.fieldLink RX4 40 "TelegraphDesk" "quality" "I", Cond.fieldLink RX4 169 "TelegraphDesk" "repeats" "I", Cond.fieldLink RX4 175 "TelegraphDesk" "lost" "I", Cond.methodLink RX4 111 yX1_size, Cond.instanceMethod yX1_size, Cond.selects RX1 yX1_size yX1_size, Cond.initialized RX1, Cond.code yX1_size cX1_size 1 (some .int), Cond.fieldLink RX1 15 "TelegraphDesk$Message" "count" "I", Cond.methodLink RX4 151 yX4_cost, Cond.instanceMethod yX4_cost, Cond.selects RX4 yX4_cost yX4_cost, Cond.initialized RX4, Cond.code yX4_cost cX4_cost 1 (some .int), Cond.methodLink RX4 142 yX4_counted, Cond.instanceMethod yX4_counted, Cond.selects RX4 yX4_counted yX4_counted]
def wsX4_send_r2 : List Cond := [Cond.code yX4_counted cX4_counted 4 (some .int), Cond.methodLink RX4 126 yX2_size, Cond.instanceMethod yX2_size, Cond.selects RX2 yX2_size yX2_size, Cond.initialized RX2, Cond.code yX2_size cX2_size 1 (some .int), Cond.fieldLink RX2 24 "TelegraphDesk$Parting" "count" "I", Cond.methodLink RX4 130 yX2_codeAt, Cond.instanceMethod yX2_codeAt, Cond.selects RX2 yX2_codeAt yX2_codeAt, Cond.code yX2_codeAt cX2_codeAt 2 (some .int), Cond.fieldLink RX2 18 "TelegraphDesk$Parting" "codes" "[I", Cond.fieldLink RX2 21 "TelegraphDesk$Parting" "starts" "[I", Cond.methodLink RX2 28 yX2_has, Cond.instanceMethod yX2_has, Cond.selects RX2 yX2_has yX2_has, Cond.code yX2_has cX2_has 2 (some .boolean), Cond.methodLink RX4 133 yX2_startAt, Cond.instanceMethod yX2_startAt, Cond.selects RX2 yX2_startAt yX2_startAt, Cond.code yX2_startAt cX2_startAt 2 (some .int), Cond.methodLink RX4 139 yX1_countOf, Cond.instanceMethod yX1_countOf, Cond.selects RX1 yX1_countOf yX1_countOf]
def wsX4_send_r3 : List Cond := [Cond.code yX1_countOf cX1_countOf 2 (some .int), Cond.methodLink RX1 23 yX1_typeAt, Cond.instanceMethod yX1_typeAt, Cond.selects RX1 yX1_typeAt yX1_typeAt, Cond.code yX1_typeAt cX1_typeAt 2 (some .int), Cond.fieldLink RX1 9 "TelegraphDesk$Message" "types" "[I", Cond.methodLink RX1 19 yX1_has, Cond.instanceMethod yX1_has, Cond.selects RX1 yX1_has yX1_has, Cond.code yX1_has cX1_has 2 (some .boolean), Cond.methodLink RX4 145 yX4_costOf, Cond.instanceMethod yX4_costOf, Cond.selects RX4 yX4_costOf yX4_costOf, Cond.code yX4_costOf cX4_costOf 2 (some .int), Cond.methodLink RX4 254 Lib.Math.max.name, Cond.static Lib.Math.max.name, Cond.initialized "java/lang/Math", Cond.code Lib.Math.max.name Lib.Math.max.code 2 (some .int), Cond.methodLink RX4 162 yX3_run, Cond.instanceMethod yX3_run, Cond.selects RX3 yX3_run yX3_run, Cond.initialized RX3, Cond.code yX3_run cX3_run 5 none, Cond.fieldLink RX3 9 "TelegraphDesk$Passage" "sent" "I"]
def wsX4_send_r4 : List Cond := [Cond.fieldLink RX3 15 "TelegraphDesk$Passage" "garbledFirst" "I", Cond.fieldLink RX3 18 "TelegraphDesk$Passage" "asked" "I", Cond.fieldLink RX3 21 "TelegraphDesk$Passage" "gone" "I", Cond.methodLink RX3 24 yX3_pass, Cond.instanceMethod yX3_pass, Cond.selects RX3 yX3_pass yX3_pass, Cond.code yX3_pass cX3_pass 4 none, Cond.methodLink RX3 28 yX3_isNextGarbled, Cond.instanceMethod yX3_isNextGarbled, Cond.selects RX3 yX3_isNextGarbled yX3_isNextGarbled, Cond.code yX3_isNextGarbled cX3_isNextGarbled 2 (some .boolean), Cond.static yX4_isGarbled, Cond.code yX4_isGarbled cX4_isGarbled 2 (some .boolean), Cond.methodLink RX4 166 yX3_sentAtEnd, Cond.instanceMethod yX3_sentAtEnd, Cond.selects RX3 yX3_sentAtEnd yX3_sentAtEnd, Cond.code yX3_sentAtEnd cX3_sentAtEnd 1 (some .int), Cond.methodLink RX4 172 yX3_repeatsAsked, Cond.instanceMethod yX3_repeatsAsked, Cond.selects RX3 yX3_repeatsAsked yX3_repeatsAsked, Cond.code yX3_repeatsAsked cX3_repeatsAsked 1 (some .int), Cond.methodLink RX4 178 yX3_groupsLost, Cond.instanceMethod yX3_groupsLost, Cond.selects RX3 yX3_groupsLost yX3_groupsLost]
def wsX4_send_r5 : List Cond := [Cond.code yX3_groupsLost cX3_groupsLost 1 (some .int), Cond.methodLink RX4 120 yX1_removeAll, Cond.instanceMethod yX1_removeAll, Cond.selects RX1 yX1_removeAll yX1_removeAll, Cond.code yX1_removeAll cX1_removeAll 1 none, Cond.methodLink RX4 81 yX4_shorten, Cond.instanceMethod yX4_shorten, Cond.selects RX4 yX4_shorten yX4_shorten, Cond.code yX4_shorten cX4_shorten 1 none, Cond.fieldLink RX4 10 "TelegraphDesk" "book" "LTelegraphDesk$CodeBook;", Cond.methodLink RX4 260 yX2_partAsIs, Cond.instanceMethod yX2_partAsIs, Cond.selects RX2 yX2_partAsIs yX2_partAsIs, Cond.code yX2_partAsIs cX2_partAsIs 3 none, Cond.methodLink RX2 36 yX2_part, Cond.instanceMethod yX2_part, Cond.selects RX2 yX2_part yX2_part, Cond.code yX2_part cX2_part 9 none, Cond.methodLink RX2 46 Lib.Math.min.name, Cond.static Lib.Math.min.name, Cond.code Lib.Math.min.name Lib.Math.min.code 2 (some .int), Cond.fieldLink RX2 9 "TelegraphDesk$Parting" "fewest" "[I", Cond.methodLink RX2 40 yX1_size, Cond.methodLink RX2 52 yX2_takeWord]
def wsX4_send_r6 : List Cond := [Cond.instanceMethod yX2_takeWord, Cond.selects RX2 yX2_takeWord yX2_takeWord, Cond.code yX2_takeWord cX2_takeWord 2 none, Cond.fieldLink RX2 15 "TelegraphDesk$Parting" "lengths" "[I", Cond.methodLink RX2 56 yX0_size, Cond.instanceMethod yX0_size, Cond.selects RX0 yX0_size yX0_size, Cond.initialized RX0, Cond.code yX0_size cX0_size 1 (some .int), Cond.fieldLink RX0 18 "TelegraphDesk$CodeBook" "count" "I", Cond.methodLink RX2 59 yX1_hasWordsOf, Cond.instanceMethod yX1_hasWordsOf, Cond.selects RX1 yX1_hasWordsOf yX1_hasWordsOf, Cond.code yX1_hasWordsOf cX1_hasWordsOf 6 (some .boolean), Cond.methodLink RX1 30 yX0_wordsIn, Cond.instanceMethod yX0_wordsIn, Cond.selects RX0 yX0_wordsIn yX0_wordsIn, Cond.code yX0_wordsIn cX0_wordsIn 2 (some .int), Cond.fieldLink RX0 15 "TelegraphDesk$CodeBook" "lengths" "[I", Cond.methodLink RX0 22 yX0_has, Cond.instanceMethod yX0_has, Cond.selects RX0 yX0_has yX0_has, Cond.code yX0_has cX0_has 2 (some .boolean), Cond.methodLink RX1 35 yX0_typeIn]
def wsX4_send_r7 : List Cond := [Cond.instanceMethod yX0_typeIn, Cond.selects RX0 yX0_typeIn yX0_typeIn, Cond.code yX0_typeIn cX0_typeIn 3 (some .int), Cond.fieldLink RX0 9 "TelegraphDesk$CodeBook" "types" "[I", Cond.methodLink RX2 63 yX0_wordsIn, Cond.methodLink RX2 66 yX2_takeIfBetter, Cond.instanceMethod yX2_takeIfBetter, Cond.selects RX2 yX2_takeIfBetter yX2_takeIfBetter, Cond.code yX2_takeIfBetter cX2_takeIfBetter 5 none, Cond.methodLink RX2 70 yX1_hasSameWords, Cond.instanceMethod yX1_hasSameWords, Cond.selects RX1 yX1_hasSameWords yX1_hasSameWords, Cond.code yX1_hasSameWords cX1_hasSameWords 5 (some .boolean), Cond.methodLink RX2 74 yX2_listStarts, Cond.instanceMethod yX2_listStarts, Cond.selects RX2 yX2_listStarts yX2_listStarts, Cond.code yX2_listStarts cX2_listStarts 3 none]
def wsX4_send : List Cond := .code yX4_send cX4_send 1 (some .int) :: ((wsX4_send_r1 ++ (wsX4_send_r2 ++ (wsX4_send_r3 ++ (wsX4_send_r4 ++ (wsX4_send_r5 ++ (wsX4_send_r6 ++ wsX4_send_r7)))))) ++ wsX40 ++ wsX10 ++ wsX20 ++ wsX30 ++ wsX00 ++ (vx_atS RX4 70 "java/lang/IllegalStateException" ["java/lang/RuntimeException", "java/lang/Exception"]).filter goodWord)
def wsX4_sentGroups : List Cond := .code yX4_sentGroups cX4_sentGroups 1 (some .int) :: ([.fieldLink RX4 159 "TelegraphDesk" "sentGroups" "I"] ++ wsX40)
def wsX4_repeats : List Cond := .code yX4_repeats cX4_repeats 1 (some .int) :: ([.fieldLink RX4 169 "TelegraphDesk" "repeats" "I"] ++ wsX40)
def wsX4_lost : List Cond := .code yX4_lost cX4_lost 1 (some .int) :: ([.fieldLink RX4 175 "TelegraphDesk" "lost" "I"] ++ wsX40)
def wsX4_earned : List Cond := .code yX4_earned cX4_earned 1 (some .int) :: ([.fieldLink RX4 156 "TelegraphDesk" "earned" "I"] ++ wsX40)
def wsX4_untilGarbled : List Cond := .code yX4_untilGarbled cX4_untilGarbled 2 (some .int) :: ([.fieldLink RX4 159 "TelegraphDesk" "sentGroups" "I", .fieldLink RX4 40 "TelegraphDesk" "quality" "I", .methodLink RX4 181 yX4_isGarbled, .static yX4_isGarbled, .initialized RX4, .code yX4_isGarbled cX4_isGarbled 2 (some .boolean)] ++ wsX40)
def wsX4_wouldBeGarbled_r1 : List Cond := [Cond.fieldLink RX4 36 "TelegraphDesk" "passage" "LTelegraphDesk$Passage;", Cond.fieldLink RX4 26 "TelegraphDesk" "parting" "LTelegraphDesk$Parting;", Cond.fieldLink RX4 159 "TelegraphDesk" "sentGroups" "I", Cond.fieldLink RX4 40 "TelegraphDesk" "quality" "I", Cond.methodLink RX4 126 yX2_size, Cond.instanceMethod yX2_size, Cond.selects RX2 yX2_size yX2_size, Cond.initialized RX2, Cond.code yX2_size cX2_size 1 (some .int), Cond.fieldLink RX2 24 "TelegraphDesk$Parting" "count" "I", Cond.methodLink RX4 162 yX3_run, Cond.instanceMethod yX3_run, Cond.selects RX3 yX3_run yX3_run, Cond.initialized RX3, Cond.code yX3_run cX3_run 5 none, Cond.fieldLink RX3 9 "TelegraphDesk$Passage" "sent" "I", Cond.fieldLink RX3 15 "TelegraphDesk$Passage" "garbledFirst" "I", Cond.fieldLink RX3 18 "TelegraphDesk$Passage" "asked" "I", Cond.fieldLink RX3 21 "TelegraphDesk$Passage" "gone" "I", Cond.methodLink RX3 24 yX3_pass, Cond.instanceMethod yX3_pass, Cond.selects RX3 yX3_pass yX3_pass, Cond.code yX3_pass cX3_pass 4 none, Cond.methodLink RX3 28 yX3_isNextGarbled]
def wsX4_wouldBeGarbled_r2 : List Cond := [Cond.instanceMethod yX3_isNextGarbled, Cond.selects RX3 yX3_isNextGarbled yX3_isNextGarbled, Cond.code yX3_isNextGarbled cX3_isNextGarbled 2 (some .boolean), Cond.static yX4_isGarbled, Cond.initialized RX4, Cond.code yX4_isGarbled cX4_isGarbled 2 (some .boolean), Cond.methodLink RX4 185 yX3_garbledAtFirst, Cond.instanceMethod yX3_garbledAtFirst, Cond.selects RX3 yX3_garbledAtFirst yX3_garbledAtFirst, Cond.code yX3_garbledAtFirst cX3_garbledAtFirst 1 (some .int)]
def wsX4_wouldBeGarbled : List Cond := .code yX4_wouldBeGarbled cX4_wouldBeGarbled 1 (some .int) :: ((wsX4_wouldBeGarbled_r1 ++ wsX4_wouldBeGarbled_r2) ++ wsX40 ++ wsX20 ++ wsX30)
def wsX4_repeatsIfSent_r1 : List Cond := [Cond.fieldLink RX4 36 "TelegraphDesk" "passage" "LTelegraphDesk$Passage;", Cond.fieldLink RX4 26 "TelegraphDesk" "parting" "LTelegraphDesk$Parting;", Cond.fieldLink RX4 159 "TelegraphDesk" "sentGroups" "I", Cond.fieldLink RX4 40 "TelegraphDesk" "quality" "I", Cond.methodLink RX4 126 yX2_size, Cond.instanceMethod yX2_size, Cond.selects RX2 yX2_size yX2_size, Cond.initialized RX2, Cond.code yX2_size cX2_size 1 (some .int), Cond.fieldLink RX2 24 "TelegraphDesk$Parting" "count" "I", Cond.methodLink RX4 162 yX3_run, Cond.instanceMethod yX3_run, Cond.selects RX3 yX3_run yX3_run, Cond.initialized RX3, Cond.code yX3_run cX3_run 5 none, Cond.fieldLink RX3 9 "TelegraphDesk$Passage" "sent" "I", Cond.fieldLink RX3 15 "TelegraphDesk$Passage" "garbledFirst" "I", Cond.fieldLink RX3 18 "TelegraphDesk$Passage" "asked" "I", Cond.fieldLink RX3 21 "TelegraphDesk$Passage" "gone" "I", Cond.methodLink RX3 24 yX3_pass, Cond.instanceMethod yX3_pass, Cond.selects RX3 yX3_pass yX3_pass, Cond.code yX3_pass cX3_pass 4 none, Cond.methodLink RX3 28 yX3_isNextGarbled]
def wsX4_repeatsIfSent_r2 : List Cond := [Cond.instanceMethod yX3_isNextGarbled, Cond.selects RX3 yX3_isNextGarbled yX3_isNextGarbled, Cond.code yX3_isNextGarbled cX3_isNextGarbled 2 (some .boolean), Cond.static yX4_isGarbled, Cond.initialized RX4, Cond.code yX4_isGarbled cX4_isGarbled 2 (some .boolean), Cond.methodLink RX4 172 yX3_repeatsAsked, Cond.instanceMethod yX3_repeatsAsked, Cond.selects RX3 yX3_repeatsAsked yX3_repeatsAsked, Cond.code yX3_repeatsAsked cX3_repeatsAsked 1 (some .int)]
def wsX4_repeatsIfSent : List Cond := .code yX4_repeatsIfSent cX4_repeatsIfSent 1 (some .int) :: ((wsX4_repeatsIfSent_r1 ++ wsX4_repeatsIfSent_r2) ++ wsX40 ++ wsX20 ++ wsX30)
def wsX4_qualityWanted_r1 : List Cond := [Cond.fieldLink RX4 36 "TelegraphDesk" "passage" "LTelegraphDesk$Passage;", Cond.fieldLink RX4 26 "TelegraphDesk" "parting" "LTelegraphDesk$Parting;", Cond.fieldLink RX4 159 "TelegraphDesk" "sentGroups" "I", Cond.methodLink RX4 126 yX2_size, Cond.instanceMethod yX2_size, Cond.selects RX2 yX2_size yX2_size, Cond.initialized RX2, Cond.code yX2_size cX2_size 1 (some .int), Cond.fieldLink RX2 24 "TelegraphDesk$Parting" "count" "I", Cond.methodLink RX4 162 yX3_run, Cond.instanceMethod yX3_run, Cond.selects RX3 yX3_run yX3_run, Cond.initialized RX3, Cond.code yX3_run cX3_run 5 none, Cond.fieldLink RX3 9 "TelegraphDesk$Passage" "sent" "I", Cond.fieldLink RX3 15 "TelegraphDesk$Passage" "garbledFirst" "I", Cond.fieldLink RX3 18 "TelegraphDesk$Passage" "asked" "I", Cond.fieldLink RX3 21 "TelegraphDesk$Passage" "gone" "I", Cond.methodLink RX3 24 yX3_pass, Cond.instanceMethod yX3_pass, Cond.selects RX3 yX3_pass yX3_pass, Cond.code yX3_pass cX3_pass 4 none, Cond.methodLink RX3 28 yX3_isNextGarbled, Cond.instanceMethod yX3_isNextGarbled]
def wsX4_qualityWanted_r2 : List Cond := [Cond.selects RX3 yX3_isNextGarbled yX3_isNextGarbled, Cond.code yX3_isNextGarbled cX3_isNextGarbled 2 (some .boolean), Cond.static yX4_isGarbled, Cond.initialized RX4, Cond.code yX4_isGarbled cX4_isGarbled 2 (some .boolean), Cond.methodLink RX4 178 yX3_groupsLost, Cond.instanceMethod yX3_groupsLost, Cond.selects RX3 yX3_groupsLost yX3_groupsLost, Cond.code yX3_groupsLost cX3_groupsLost 1 (some .int)]
def wsX4_qualityWanted : List Cond := .code yX4_qualityWanted cX4_qualityWanted 2 (some .int) :: ((wsX4_qualityWanted_r1 ++ wsX4_qualityWanted_r2) ++ wsX40 ++ wsX20 ++ wsX30)
def wsX4_uselessCode_r1 : List Cond := [Cond.fieldLink RX4 10 "TelegraphDesk" "book" "LTelegraphDesk$CodeBook;", Cond.fieldLink RX4 30 "TelegraphDesk" "supposed" "LTelegraphDesk$Parting;", Cond.fieldLink RX4 19 "TelegraphDesk" "message" "LTelegraphDesk$Message;", Cond.fieldLink RX4 26 "TelegraphDesk" "parting" "LTelegraphDesk$Parting;", Cond.methodLink RX4 84 yX0_size, Cond.instanceMethod yX0_size, Cond.selects RX0 yX0_size yX0_size, Cond.initialized RX0, Cond.code yX0_size cX0_size 1 (some .int), Cond.fieldLink RX0 18 "TelegraphDesk$CodeBook" "count" "I", Cond.methodLink RX4 188 yX2_partWithout, Cond.instanceMethod yX2_partWithout, Cond.selects RX2 yX2_partWithout yX2_partWithout, Cond.initialized RX2, Cond.code yX2_partWithout cX2_partWithout 4 none, Cond.methodLink RX2 36 yX2_part, Cond.instanceMethod yX2_part, Cond.selects RX2 yX2_part yX2_part, Cond.code yX2_part cX2_part 9 none, Cond.methodLink RX2 46 Lib.Math.min.name, Cond.static Lib.Math.min.name, Cond.initialized "java/lang/Math", Cond.code Lib.Math.min.name Lib.Math.min.code 2 (some .int), Cond.fieldLink RX2 9 "TelegraphDesk$Parting" "fewest" "[I"]
def wsX4_uselessCode_r2 : List Cond := [Cond.methodLink RX2 40 yX1_size, Cond.instanceMethod yX1_size, Cond.selects RX1 yX1_size yX1_size, Cond.initialized RX1, Cond.code yX1_size cX1_size 1 (some .int), Cond.fieldLink RX1 15 "TelegraphDesk$Message" "count" "I", Cond.methodLink RX2 52 yX2_takeWord, Cond.instanceMethod yX2_takeWord, Cond.selects RX2 yX2_takeWord yX2_takeWord, Cond.code yX2_takeWord cX2_takeWord 2 none, Cond.fieldLink RX2 15 "TelegraphDesk$Parting" "lengths" "[I", Cond.fieldLink RX2 18 "TelegraphDesk$Parting" "codes" "[I", Cond.methodLink RX2 56 yX0_size, Cond.methodLink RX2 59 yX1_hasWordsOf, Cond.instanceMethod yX1_hasWordsOf, Cond.selects RX1 yX1_hasWordsOf yX1_hasWordsOf, Cond.code yX1_hasWordsOf cX1_hasWordsOf 6 (some .boolean), Cond.methodLink RX1 30 yX0_wordsIn, Cond.instanceMethod yX0_wordsIn, Cond.selects RX0 yX0_wordsIn yX0_wordsIn, Cond.code yX0_wordsIn cX0_wordsIn 2 (some .int), Cond.fieldLink RX0 15 "TelegraphDesk$CodeBook" "lengths" "[I", Cond.methodLink RX0 22 yX0_has, Cond.instanceMethod yX0_has]
def wsX4_uselessCode_r3 : List Cond := [Cond.selects RX0 yX0_has yX0_has, Cond.code yX0_has cX0_has 2 (some .boolean), Cond.methodLink RX1 19 yX1_has, Cond.instanceMethod yX1_has, Cond.selects RX1 yX1_has yX1_has, Cond.code yX1_has cX1_has 2 (some .boolean), Cond.methodLink RX1 23 yX1_typeAt, Cond.instanceMethod yX1_typeAt, Cond.selects RX1 yX1_typeAt yX1_typeAt, Cond.code yX1_typeAt cX1_typeAt 2 (some .int), Cond.fieldLink RX1 9 "TelegraphDesk$Message" "types" "[I", Cond.methodLink RX1 35 yX0_typeIn, Cond.instanceMethod yX0_typeIn, Cond.selects RX0 yX0_typeIn yX0_typeIn, Cond.code yX0_typeIn cX0_typeIn 3 (some .int), Cond.fieldLink RX0 9 "TelegraphDesk$CodeBook" "types" "[I", Cond.methodLink RX2 63 yX0_wordsIn, Cond.methodLink RX2 66 yX2_takeIfBetter, Cond.instanceMethod yX2_takeIfBetter, Cond.selects RX2 yX2_takeIfBetter yX2_takeIfBetter, Cond.code yX2_takeIfBetter cX2_takeIfBetter 5 none, Cond.methodLink RX2 70 yX1_hasSameWords, Cond.instanceMethod yX1_hasSameWords, Cond.selects RX1 yX1_hasSameWords yX1_hasSameWords]
def wsX4_uselessCode_r4 : List Cond := [Cond.code yX1_hasSameWords cX1_hasSameWords 5 (some .boolean), Cond.methodLink RX2 74 yX2_listStarts, Cond.instanceMethod yX2_listStarts, Cond.selects RX2 yX2_listStarts yX2_listStarts, Cond.code yX2_listStarts cX2_listStarts 3 none, Cond.fieldLink RX2 24 "TelegraphDesk$Parting" "count" "I", Cond.fieldLink RX2 21 "TelegraphDesk$Parting" "starts" "[I", Cond.methodLink RX4 126 yX2_size, Cond.instanceMethod yX2_size, Cond.selects RX2 yX2_size yX2_size, Cond.code yX2_size cX2_size 1 (some .int)]
def wsX4_uselessCode : List Cond := .code yX4_uselessCode cX4_uselessCode 2 (some .int) :: ((wsX4_uselessCode_r1 ++ (wsX4_uselessCode_r2 ++ (wsX4_uselessCode_r3 ++ wsX4_uselessCode_r4))) ++ wsX40 ++ wsX00 ++ wsX20 ++ wsX10)
def wsX4_bestStart_r1 : List Cond := [Cond.fieldLink RX4 19 "TelegraphDesk" "message" "LTelegraphDesk$Message;", Cond.fieldLink RX4 30 "TelegraphDesk" "supposed" "LTelegraphDesk$Parting;", Cond.fieldLink RX4 10 "TelegraphDesk" "book" "LTelegraphDesk$CodeBook;", Cond.methodLink RX4 111 yX1_size, Cond.instanceMethod yX1_size, Cond.selects RX1 yX1_size yX1_size, Cond.initialized RX1, Cond.code yX1_size cX1_size 1 (some .int), Cond.fieldLink RX1 15 "TelegraphDesk$Message" "count" "I", Cond.methodLink RX4 250 yX2_partWithNew, Cond.instanceMethod yX2_partWithNew, Cond.selects RX2 yX2_partWithNew yX2_partWithNew, Cond.initialized RX2, Cond.code yX2_partWithNew cX2_partWithNew 5 none, Cond.methodLink RX2 36 yX2_part, Cond.instanceMethod yX2_part, Cond.selects RX2 yX2_part yX2_part, Cond.code yX2_part cX2_part 9 none, Cond.methodLink RX2 46 Lib.Math.min.name, Cond.static Lib.Math.min.name, Cond.initialized "java/lang/Math", Cond.code Lib.Math.min.name Lib.Math.min.code 2 (some .int), Cond.fieldLink RX2 9 "TelegraphDesk$Parting" "fewest" "[I", Cond.methodLink RX2 40 yX1_size]
def wsX4_bestStart_r2 : List Cond := [Cond.methodLink RX2 52 yX2_takeWord, Cond.instanceMethod yX2_takeWord, Cond.selects RX2 yX2_takeWord yX2_takeWord, Cond.code yX2_takeWord cX2_takeWord 2 none, Cond.fieldLink RX2 15 "TelegraphDesk$Parting" "lengths" "[I", Cond.fieldLink RX2 18 "TelegraphDesk$Parting" "codes" "[I", Cond.methodLink RX2 56 yX0_size, Cond.instanceMethod yX0_size, Cond.selects RX0 yX0_size yX0_size, Cond.initialized RX0, Cond.code yX0_size cX0_size 1 (some .int), Cond.fieldLink RX0 18 "TelegraphDesk$CodeBook" "count" "I", Cond.methodLink RX2 59 yX1_hasWordsOf, Cond.instanceMethod yX1_hasWordsOf, Cond.selects RX1 yX1_hasWordsOf yX1_hasWordsOf, Cond.code yX1_hasWordsOf cX1_hasWordsOf 6 (some .boolean), Cond.methodLink RX1 30 yX0_wordsIn, Cond.instanceMethod yX0_wordsIn, Cond.selects RX0 yX0_wordsIn yX0_wordsIn, Cond.code yX0_wordsIn cX0_wordsIn 2 (some .int), Cond.fieldLink RX0 15 "TelegraphDesk$CodeBook" "lengths" "[I", Cond.methodLink RX0 22 yX0_has, Cond.instanceMethod yX0_has, Cond.selects RX0 yX0_has yX0_has]
def wsX4_bestStart_r3 : List Cond := [Cond.code yX0_has cX0_has 2 (some .boolean), Cond.methodLink RX1 19 yX1_has, Cond.instanceMethod yX1_has, Cond.selects RX1 yX1_has yX1_has, Cond.code yX1_has cX1_has 2 (some .boolean), Cond.methodLink RX1 23 yX1_typeAt, Cond.instanceMethod yX1_typeAt, Cond.selects RX1 yX1_typeAt yX1_typeAt, Cond.code yX1_typeAt cX1_typeAt 2 (some .int), Cond.fieldLink RX1 9 "TelegraphDesk$Message" "types" "[I", Cond.methodLink RX1 35 yX0_typeIn, Cond.instanceMethod yX0_typeIn, Cond.selects RX0 yX0_typeIn yX0_typeIn, Cond.code yX0_typeIn cX0_typeIn 3 (some .int), Cond.fieldLink RX0 9 "TelegraphDesk$CodeBook" "types" "[I", Cond.methodLink RX2 63 yX0_wordsIn, Cond.methodLink RX2 66 yX2_takeIfBetter, Cond.instanceMethod yX2_takeIfBetter, Cond.selects RX2 yX2_takeIfBetter yX2_takeIfBetter, Cond.code yX2_takeIfBetter cX2_takeIfBetter 5 none, Cond.methodLink RX2 70 yX1_hasSameWords, Cond.instanceMethod yX1_hasSameWords, Cond.selects RX1 yX1_hasSameWords yX1_hasSameWords, Cond.code yX1_hasSameWords cX1_hasSameWords 5 (some .boolean)]
def wsX4_bestStart_r4 : List Cond := [Cond.methodLink RX2 74 yX2_listStarts, Cond.instanceMethod yX2_listStarts, Cond.selects RX2 yX2_listStarts yX2_listStarts, Cond.code yX2_listStarts cX2_listStarts 3 none, Cond.fieldLink RX2 24 "TelegraphDesk$Parting" "count" "I", Cond.fieldLink RX2 21 "TelegraphDesk$Parting" "starts" "[I", Cond.methodLink RX4 126 yX2_size, Cond.instanceMethod yX2_size, Cond.selects RX2 yX2_size yX2_size, Cond.code yX2_size cX2_size 1 (some .int)]
def wsX4_bestStart : List Cond := .code yX4_bestStart cX4_bestStart 5 (some .int) :: ((wsX4_bestStart_r1 ++ (wsX4_bestStart_r2 ++ (wsX4_bestStart_r3 ++ wsX4_bestStart_r4))) ++ wsX40 ++ wsX10 ++ wsX20 ++ wsX00)
def wsX4_bestNewCode_r1 : List Cond := [Cond.classLink RX4 48 "java/lang/IllegalArgumentException", Cond.initialized "java/lang/IllegalArgumentException", Cond.methodLink RX4 194 yX4_bestStart, Cond.instanceMethod yX4_bestStart, Cond.selects RX4 yX4_bestStart yX4_bestStart, Cond.initialized RX4, Cond.code yX4_bestStart cX4_bestStart 5 (some .int), Cond.fieldLink RX4 19 "TelegraphDesk" "message" "LTelegraphDesk$Message;", Cond.fieldLink RX4 30 "TelegraphDesk" "supposed" "LTelegraphDesk$Parting;", Cond.fieldLink RX4 10 "TelegraphDesk" "book" "LTelegraphDesk$CodeBook;", Cond.methodLink RX4 111 yX1_size, Cond.instanceMethod yX1_size, Cond.selects RX1 yX1_size yX1_size, Cond.initialized RX1, Cond.code yX1_size cX1_size 1 (some .int), Cond.fieldLink RX1 15 "TelegraphDesk$Message" "count" "I", Cond.methodLink RX4 250 yX2_partWithNew, Cond.instanceMethod yX2_partWithNew, Cond.selects RX2 yX2_partWithNew yX2_partWithNew, Cond.initialized RX2, Cond.code yX2_partWithNew cX2_partWithNew 5 none, Cond.methodLink RX2 36 yX2_part, Cond.instanceMethod yX2_part, Cond.selects RX2 yX2_part yX2_part]
def wsX4_bestNewCode_r2 : List Cond := [Cond.code yX2_part cX2_part 9 none, Cond.methodLink RX2 46 Lib.Math.min.name, Cond.static Lib.Math.min.name, Cond.initialized "java/lang/Math", Cond.code Lib.Math.min.name Lib.Math.min.code 2 (some .int), Cond.fieldLink RX2 9 "TelegraphDesk$Parting" "fewest" "[I", Cond.methodLink RX2 40 yX1_size, Cond.methodLink RX2 52 yX2_takeWord, Cond.instanceMethod yX2_takeWord, Cond.selects RX2 yX2_takeWord yX2_takeWord, Cond.code yX2_takeWord cX2_takeWord 2 none, Cond.fieldLink RX2 15 "TelegraphDesk$Parting" "lengths" "[I", Cond.fieldLink RX2 18 "TelegraphDesk$Parting" "codes" "[I", Cond.methodLink RX2 56 yX0_size, Cond.instanceMethod yX0_size, Cond.selects RX0 yX0_size yX0_size, Cond.initialized RX0, Cond.code yX0_size cX0_size 1 (some .int), Cond.fieldLink RX0 18 "TelegraphDesk$CodeBook" "count" "I", Cond.methodLink RX2 59 yX1_hasWordsOf, Cond.instanceMethod yX1_hasWordsOf, Cond.selects RX1 yX1_hasWordsOf yX1_hasWordsOf, Cond.code yX1_hasWordsOf cX1_hasWordsOf 6 (some .boolean), Cond.methodLink RX1 30 yX0_wordsIn]
def wsX4_bestNewCode_r3 : List Cond := [Cond.instanceMethod yX0_wordsIn, Cond.selects RX0 yX0_wordsIn yX0_wordsIn, Cond.code yX0_wordsIn cX0_wordsIn 2 (some .int), Cond.fieldLink RX0 15 "TelegraphDesk$CodeBook" "lengths" "[I", Cond.methodLink RX0 22 yX0_has, Cond.instanceMethod yX0_has, Cond.selects RX0 yX0_has yX0_has, Cond.code yX0_has cX0_has 2 (some .boolean), Cond.methodLink RX1 19 yX1_has, Cond.instanceMethod yX1_has, Cond.selects RX1 yX1_has yX1_has, Cond.code yX1_has cX1_has 2 (some .boolean), Cond.methodLink RX1 23 yX1_typeAt, Cond.instanceMethod yX1_typeAt, Cond.selects RX1 yX1_typeAt yX1_typeAt, Cond.code yX1_typeAt cX1_typeAt 2 (some .int), Cond.fieldLink RX1 9 "TelegraphDesk$Message" "types" "[I", Cond.methodLink RX1 35 yX0_typeIn, Cond.instanceMethod yX0_typeIn, Cond.selects RX0 yX0_typeIn yX0_typeIn, Cond.code yX0_typeIn cX0_typeIn 3 (some .int), Cond.fieldLink RX0 9 "TelegraphDesk$CodeBook" "types" "[I", Cond.methodLink RX2 63 yX0_wordsIn, Cond.methodLink RX2 66 yX2_takeIfBetter]
def wsX4_bestNewCode_r4 : List Cond := [Cond.instanceMethod yX2_takeIfBetter, Cond.selects RX2 yX2_takeIfBetter yX2_takeIfBetter, Cond.code yX2_takeIfBetter cX2_takeIfBetter 5 none, Cond.methodLink RX2 70 yX1_hasSameWords, Cond.instanceMethod yX1_hasSameWords, Cond.selects RX1 yX1_hasSameWords yX1_hasSameWords, Cond.code yX1_hasSameWords cX1_hasSameWords 5 (some .boolean), Cond.methodLink RX2 74 yX2_listStarts, Cond.instanceMethod yX2_listStarts, Cond.selects RX2 yX2_listStarts yX2_listStarts, Cond.code yX2_listStarts cX2_listStarts 3 none, Cond.fieldLink RX2 24 "TelegraphDesk$Parting" "count" "I", Cond.fieldLink RX2 21 "TelegraphDesk$Parting" "starts" "[I", Cond.methodLink RX4 126 yX2_size, Cond.instanceMethod yX2_size, Cond.selects RX2 yX2_size yX2_size, Cond.code yX2_size cX2_size 1 (some .int)]
def wsX4_bestNewCode : List Cond := .code yX4_bestNewCode cX4_bestNewCode 2 (some .int) :: ((wsX4_bestNewCode_r1 ++ (wsX4_bestNewCode_r2 ++ (wsX4_bestNewCode_r3 ++ wsX4_bestNewCode_r4))) ++ wsX40 ++ wsX10 ++ wsX20 ++ wsX00 ++ (vx_atS RX4 52 "java/lang/IllegalArgumentException" ["java/lang/RuntimeException", "java/lang/Exception"]).filter goodWord)
def wsX4_meanLength : List Cond := .code yX4_meanLength cX4_meanLength 3 (some .double) :: ([.fieldLink RX4 10 "TelegraphDesk" "book" "LTelegraphDesk$CodeBook;", .methodLink RX4 84 yX0_size, .instanceMethod yX0_size, .selects RX0 yX0_size yX0_size, .initialized RX0, .code yX0_size cX0_size 1 (some .int), .fieldLink RX0 18 "TelegraphDesk$CodeBook" "count" "I", .methodLink RX4 96 yX0_wordsIn, .instanceMethod yX0_wordsIn, .selects RX0 yX0_wordsIn yX0_wordsIn, .code yX0_wordsIn cX0_wordsIn 2 (some .int), .fieldLink RX0 15 "TelegraphDesk$CodeBook" "lengths" "[I", .methodLink RX0 22 yX0_has, .instanceMethod yX0_has, .selects RX0 yX0_has yX0_has, .code yX0_has cX0_has 2 (some .boolean)] ++ wsX40 ++ wsX00)
def wsX4_withNumber : List Cond := .code yX4_withNumber cX4_withNumber 4 (some .long) :: ([.constantLong RX4 248 (31)])
def wsX4_withCodes_r1 : List Cond := [Cond.fieldLink RX4 10 "TelegraphDesk" "book" "LTelegraphDesk$CodeBook;", Cond.fieldLink RX4 26 "TelegraphDesk" "parting" "LTelegraphDesk$Parting;", Cond.methodLink RX4 84 yX0_size, Cond.instanceMethod yX0_size, Cond.selects RX0 yX0_size yX0_size, Cond.initialized RX0, Cond.code yX0_size cX0_size 1 (some .int), Cond.fieldLink RX0 18 "TelegraphDesk$CodeBook" "count" "I", Cond.methodLink RX4 96 yX0_wordsIn, Cond.instanceMethod yX0_wordsIn, Cond.selects RX0 yX0_wordsIn yX0_wordsIn, Cond.code yX0_wordsIn cX0_wordsIn 2 (some .int), Cond.fieldLink RX0 15 "TelegraphDesk$CodeBook" "lengths" "[I", Cond.methodLink RX0 22 yX0_has, Cond.instanceMethod yX0_has, Cond.selects RX0 yX0_has yX0_has, Cond.code yX0_has cX0_has 2 (some .boolean), Cond.methodLink RX4 202 yX4_withNumber, Cond.static yX4_withNumber, Cond.initialized RX4, Cond.code yX4_withNumber cX4_withNumber 4 (some .long), Cond.constantLong RX4 248 (31), Cond.methodLink RX4 136 yX2_groupsWith, Cond.instanceMethod yX2_groupsWith]
def wsX4_withCodes_r2 : List Cond := [Cond.selects RX2 yX2_groupsWith yX2_groupsWith, Cond.initialized RX2, Cond.code yX2_groupsWith cX2_groupsWith 4 (some .int), Cond.fieldLink RX2 24 "TelegraphDesk$Parting" "count" "I", Cond.methodLink RX2 32 yX2_codeAt, Cond.instanceMethod yX2_codeAt, Cond.selects RX2 yX2_codeAt yX2_codeAt, Cond.code yX2_codeAt cX2_codeAt 2 (some .int), Cond.fieldLink RX2 18 "TelegraphDesk$Parting" "codes" "[I", Cond.fieldLink RX2 21 "TelegraphDesk$Parting" "starts" "[I", Cond.methodLink RX2 28 yX2_has, Cond.instanceMethod yX2_has, Cond.selects RX2 yX2_has yX2_has, Cond.code yX2_has cX2_has 2 (some .boolean)]
def wsX4_withCodes : List Cond := .code yX4_withCodes cX4_withCodes 6 (some .long) :: ((wsX4_withCodes_r1 ++ wsX4_withCodes_r2) ++ wsX40 ++ wsX00 ++ wsX20)
def wsX4_withWords : List Cond := .code yX4_withWords cX4_withWords 6 (some .long) :: ([.fieldLink RX4 19 "TelegraphDesk" "message" "LTelegraphDesk$Message;", .methodLink RX4 111 yX1_size, .instanceMethod yX1_size, .selects RX1 yX1_size yX1_size, .initialized RX1, .code yX1_size cX1_size 1 (some .int), .fieldLink RX1 15 "TelegraphDesk$Message" "count" "I", .methodLink RX4 114 yX1_typeAt, .instanceMethod yX1_typeAt, .selects RX1 yX1_typeAt yX1_typeAt, .code yX1_typeAt cX1_typeAt 2 (some .int), .fieldLink RX1 9 "TelegraphDesk$Message" "types" "[I", .methodLink RX1 19 yX1_has, .instanceMethod yX1_has, .selects RX1 yX1_has yX1_has, .code yX1_has cX1_has 2 (some .boolean), .methodLink RX4 202 yX4_withNumber, .static yX4_withNumber, .initialized RX4, .code yX4_withNumber cX4_withNumber 4 (some .long), .constantLong RX4 248 (31)] ++ wsX40 ++ wsX10)
def wsX4_withGroups_r1 : List Cond := [Cond.fieldLink RX4 26 "TelegraphDesk" "parting" "LTelegraphDesk$Parting;", Cond.methodLink RX4 126 yX2_size, Cond.instanceMethod yX2_size, Cond.selects RX2 yX2_size yX2_size, Cond.initialized RX2, Cond.code yX2_size cX2_size 1 (some .int), Cond.fieldLink RX2 24 "TelegraphDesk$Parting" "count" "I", Cond.methodLink RX4 130 yX2_codeAt, Cond.instanceMethod yX2_codeAt, Cond.selects RX2 yX2_codeAt yX2_codeAt, Cond.code yX2_codeAt cX2_codeAt 2 (some .int), Cond.fieldLink RX2 18 "TelegraphDesk$Parting" "codes" "[I", Cond.fieldLink RX2 21 "TelegraphDesk$Parting" "starts" "[I", Cond.methodLink RX2 28 yX2_has, Cond.instanceMethod yX2_has, Cond.selects RX2 yX2_has yX2_has, Cond.code yX2_has cX2_has 2 (some .boolean), Cond.methodLink RX4 202 yX4_withNumber, Cond.static yX4_withNumber, Cond.initialized RX4, Cond.code yX4_withNumber cX4_withNumber 4 (some .long), Cond.constantLong RX4 248 (31), Cond.methodLink RX4 133 yX2_startAt, Cond.instanceMethod yX2_startAt]
def wsX4_withGroups_r2 : List Cond := [Cond.selects RX2 yX2_startAt yX2_startAt, Cond.code yX2_startAt cX2_startAt 2 (some .int)]
def wsX4_withGroups : List Cond := .code yX4_withGroups cX4_withGroups 6 (some .long) :: ((wsX4_withGroups_r1 ++ wsX4_withGroups_r2) ++ wsX40 ++ wsX20)
def wsX4_digest_r1 : List Cond := [Cond.constantLong RX4 197 (2143), Cond.methodLink RX4 199 yX4_codes, Cond.instanceMethod yX4_codes, Cond.selects RX4 yX4_codes yX4_codes, Cond.initialized RX4, Cond.code yX4_codes cX4_codes 1 (some .int), Cond.fieldLink RX4 10 "TelegraphDesk" "book" "LTelegraphDesk$CodeBook;", Cond.methodLink RX4 84 yX0_size, Cond.instanceMethod yX0_size, Cond.selects RX0 yX0_size yX0_size, Cond.initialized RX0, Cond.code yX0_size cX0_size 1 (some .int), Cond.fieldLink RX0 18 "TelegraphDesk$CodeBook" "count" "I", Cond.methodLink RX4 202 yX4_withNumber, Cond.static yX4_withNumber, Cond.code yX4_withNumber cX4_withNumber 4 (some .long), Cond.constantLong RX4 248 (31), Cond.methodLink RX4 206 yX4_words, Cond.instanceMethod yX4_words, Cond.selects RX4 yX4_words yX4_words, Cond.code yX4_words cX4_words 1 (some .int), Cond.fieldLink RX4 19 "TelegraphDesk" "message" "LTelegraphDesk$Message;", Cond.methodLink RX4 111 yX1_size, Cond.instanceMethod yX1_size]
def wsX4_digest_r2 : List Cond := [Cond.selects RX1 yX1_size yX1_size, Cond.initialized RX1, Cond.code yX1_size cX1_size 1 (some .int), Cond.fieldLink RX1 15 "TelegraphDesk$Message" "count" "I", Cond.methodLink RX4 209 yX4_groups, Cond.instanceMethod yX4_groups, Cond.selects RX4 yX4_groups yX4_groups, Cond.code yX4_groups cX4_groups 1 (some .int), Cond.fieldLink RX4 26 "TelegraphDesk" "parting" "LTelegraphDesk$Parting;", Cond.methodLink RX4 126 yX2_size, Cond.instanceMethod yX2_size, Cond.selects RX2 yX2_size yX2_size, Cond.initialized RX2, Cond.code yX2_size cX2_size 1 (some .int), Cond.fieldLink RX2 24 "TelegraphDesk$Parting" "count" "I", Cond.methodLink RX4 142 yX4_counted, Cond.instanceMethod yX4_counted, Cond.selects RX4 yX4_counted yX4_counted, Cond.code yX4_counted cX4_counted 4 (some .int), Cond.methodLink RX4 130 yX2_codeAt, Cond.instanceMethod yX2_codeAt, Cond.selects RX2 yX2_codeAt yX2_codeAt, Cond.code yX2_codeAt cX2_codeAt 2 (some .int), Cond.fieldLink RX2 18 "TelegraphDesk$Parting" "codes" "[I"]
def wsX4_digest_r3 : List Cond := [Cond.fieldLink RX2 21 "TelegraphDesk$Parting" "starts" "[I", Cond.methodLink RX2 28 yX2_has, Cond.instanceMethod yX2_has, Cond.selects RX2 yX2_has yX2_has, Cond.code yX2_has cX2_has 2 (some .boolean), Cond.methodLink RX4 133 yX2_startAt, Cond.instanceMethod yX2_startAt, Cond.selects RX2 yX2_startAt yX2_startAt, Cond.code yX2_startAt cX2_startAt 2 (some .int), Cond.methodLink RX4 139 yX1_countOf, Cond.instanceMethod yX1_countOf, Cond.selects RX1 yX1_countOf yX1_countOf, Cond.code yX1_countOf cX1_countOf 2 (some .int), Cond.methodLink RX1 23 yX1_typeAt, Cond.instanceMethod yX1_typeAt, Cond.selects RX1 yX1_typeAt yX1_typeAt, Cond.code yX1_typeAt cX1_typeAt 2 (some .int), Cond.fieldLink RX1 9 "TelegraphDesk$Message" "types" "[I", Cond.methodLink RX1 19 yX1_has, Cond.instanceMethod yX1_has, Cond.selects RX1 yX1_has yX1_has, Cond.code yX1_has cX1_has 2 (some .boolean), Cond.methodLink RX4 151 yX4_cost, Cond.instanceMethod yX4_cost]
def wsX4_digest_r4 : List Cond := [Cond.selects RX4 yX4_cost yX4_cost, Cond.code yX4_cost cX4_cost 1 (some .int), Cond.methodLink RX4 145 yX4_costOf, Cond.instanceMethod yX4_costOf, Cond.selects RX4 yX4_costOf yX4_costOf, Cond.code yX4_costOf cX4_costOf 2 (some .int), Cond.methodLink RX4 254 Lib.Math.max.name, Cond.static Lib.Math.max.name, Cond.initialized "java/lang/Math", Cond.code Lib.Math.max.name Lib.Math.max.code 2 (some .int), Cond.methodLink RX4 212 yX4_saved, Cond.instanceMethod yX4_saved, Cond.selects RX4 yX4_saved yX4_saved, Cond.code yX4_saved cX4_saved 1 (some .int), Cond.methodLink RX4 148 yX1_countOfAll, Cond.instanceMethod yX1_countOfAll, Cond.selects RX1 yX1_countOfAll yX1_countOfAll, Cond.code yX1_countOfAll cX1_countOfAll 3 (some .int), Cond.methodLink RX1 27 yX1_countOf, Cond.methodLink RX4 215 yX4_sentGroups, Cond.instanceMethod yX4_sentGroups, Cond.selects RX4 yX4_sentGroups yX4_sentGroups, Cond.code yX4_sentGroups cX4_sentGroups 1 (some .int), Cond.fieldLink RX4 159 "TelegraphDesk" "sentGroups" "I"]
def wsX4_digest_r5 : List Cond := [Cond.methodLink RX4 217 yX4_repeats, Cond.instanceMethod yX4_repeats, Cond.selects RX4 yX4_repeats yX4_repeats, Cond.code yX4_repeats cX4_repeats 1 (some .int), Cond.fieldLink RX4 169 "TelegraphDesk" "repeats" "I", Cond.methodLink RX4 219 yX4_lost, Cond.instanceMethod yX4_lost, Cond.selects RX4 yX4_lost yX4_lost, Cond.code yX4_lost cX4_lost 1 (some .int), Cond.fieldLink RX4 175 "TelegraphDesk" "lost" "I", Cond.methodLink RX4 221 yX4_earned, Cond.instanceMethod yX4_earned, Cond.selects RX4 yX4_earned yX4_earned, Cond.code yX4_earned cX4_earned 1 (some .int), Cond.fieldLink RX4 156 "TelegraphDesk" "earned" "I", Cond.methodLink RX4 223 yX4_untilGarbled, Cond.instanceMethod yX4_untilGarbled, Cond.selects RX4 yX4_untilGarbled yX4_untilGarbled, Cond.code yX4_untilGarbled cX4_untilGarbled 2 (some .int), Cond.fieldLink RX4 40 "TelegraphDesk" "quality" "I", Cond.methodLink RX4 181 yX4_isGarbled, Cond.static yX4_isGarbled, Cond.code yX4_isGarbled cX4_isGarbled 2 (some .boolean), Cond.methodLink RX4 226 yX4_wouldBeGarbled]
def wsX4_digest_r6 : List Cond := [Cond.instanceMethod yX4_wouldBeGarbled, Cond.selects RX4 yX4_wouldBeGarbled yX4_wouldBeGarbled, Cond.code yX4_wouldBeGarbled cX4_wouldBeGarbled 1 (some .int), Cond.fieldLink RX4 36 "TelegraphDesk" "passage" "LTelegraphDesk$Passage;", Cond.methodLink RX4 162 yX3_run, Cond.instanceMethod yX3_run, Cond.selects RX3 yX3_run yX3_run, Cond.initialized RX3, Cond.code yX3_run cX3_run 5 none, Cond.fieldLink RX3 9 "TelegraphDesk$Passage" "sent" "I", Cond.fieldLink RX3 15 "TelegraphDesk$Passage" "garbledFirst" "I", Cond.fieldLink RX3 18 "TelegraphDesk$Passage" "asked" "I", Cond.fieldLink RX3 21 "TelegraphDesk$Passage" "gone" "I", Cond.methodLink RX3 24 yX3_pass, Cond.instanceMethod yX3_pass, Cond.selects RX3 yX3_pass yX3_pass, Cond.code yX3_pass cX3_pass 4 none, Cond.methodLink RX3 28 yX3_isNextGarbled, Cond.instanceMethod yX3_isNextGarbled, Cond.selects RX3 yX3_isNextGarbled yX3_isNextGarbled, Cond.code yX3_isNextGarbled cX3_isNextGarbled 2 (some .boolean), Cond.methodLink RX4 185 yX3_garbledAtFirst, Cond.instanceMethod yX3_garbledAtFirst, Cond.selects RX3 yX3_garbledAtFirst yX3_garbledAtFirst]
def wsX4_digest_r7 : List Cond := [Cond.code yX3_garbledAtFirst cX3_garbledAtFirst 1 (some .int), Cond.methodLink RX4 229 yX4_repeatsIfSent, Cond.instanceMethod yX4_repeatsIfSent, Cond.selects RX4 yX4_repeatsIfSent yX4_repeatsIfSent, Cond.code yX4_repeatsIfSent cX4_repeatsIfSent 1 (some .int), Cond.methodLink RX4 172 yX3_repeatsAsked, Cond.instanceMethod yX3_repeatsAsked, Cond.selects RX3 yX3_repeatsAsked yX3_repeatsAsked, Cond.code yX3_repeatsAsked cX3_repeatsAsked 1 (some .int), Cond.methodLink RX4 232 yX4_qualityWanted, Cond.instanceMethod yX4_qualityWanted, Cond.selects RX4 yX4_qualityWanted yX4_qualityWanted, Cond.code yX4_qualityWanted cX4_qualityWanted 2 (some .int), Cond.methodLink RX4 178 yX3_groupsLost, Cond.instanceMethod yX3_groupsLost, Cond.selects RX3 yX3_groupsLost yX3_groupsLost, Cond.code yX3_groupsLost cX3_groupsLost 1 (some .int), Cond.methodLink RX4 235 yX4_uselessCode, Cond.instanceMethod yX4_uselessCode, Cond.selects RX4 yX4_uselessCode yX4_uselessCode, Cond.code yX4_uselessCode cX4_uselessCode 2 (some .int), Cond.fieldLink RX4 30 "TelegraphDesk" "supposed" "LTelegraphDesk$Parting;", Cond.methodLink RX4 188 yX2_partWithout, Cond.instanceMethod yX2_partWithout]
def wsX4_digest_r8 : List Cond := [Cond.selects RX2 yX2_partWithout yX2_partWithout, Cond.code yX2_partWithout cX2_partWithout 4 none, Cond.methodLink RX2 36 yX2_part, Cond.instanceMethod yX2_part, Cond.selects RX2 yX2_part yX2_part, Cond.code yX2_part cX2_part 9 none, Cond.methodLink RX2 46 Lib.Math.min.name, Cond.static Lib.Math.min.name, Cond.code Lib.Math.min.name Lib.Math.min.code 2 (some .int), Cond.fieldLink RX2 9 "TelegraphDesk$Parting" "fewest" "[I", Cond.methodLink RX2 40 yX1_size, Cond.methodLink RX2 52 yX2_takeWord, Cond.instanceMethod yX2_takeWord, Cond.selects RX2 yX2_takeWord yX2_takeWord, Cond.code yX2_takeWord cX2_takeWord 2 none, Cond.fieldLink RX2 15 "TelegraphDesk$Parting" "lengths" "[I", Cond.methodLink RX2 56 yX0_size, Cond.methodLink RX2 59 yX1_hasWordsOf, Cond.instanceMethod yX1_hasWordsOf, Cond.selects RX1 yX1_hasWordsOf yX1_hasWordsOf, Cond.code yX1_hasWordsOf cX1_hasWordsOf 6 (some .boolean), Cond.methodLink RX1 30 yX0_wordsIn, Cond.instanceMethod yX0_wordsIn, Cond.selects RX0 yX0_wordsIn yX0_wordsIn]
def wsX4_digest_r9 : List Cond := [Cond.code yX0_wordsIn cX0_wordsIn 2 (some .int), Cond.fieldLink RX0 15 "TelegraphDesk$CodeBook" "lengths" "[I", Cond.methodLink RX0 22 yX0_has, Cond.instanceMethod yX0_has, Cond.selects RX0 yX0_has yX0_has, Cond.code yX0_has cX0_has 2 (some .boolean), Cond.methodLink RX1 35 yX0_typeIn, Cond.instanceMethod yX0_typeIn, Cond.selects RX0 yX0_typeIn yX0_typeIn, Cond.code yX0_typeIn cX0_typeIn 3 (some .int), Cond.fieldLink RX0 9 "TelegraphDesk$CodeBook" "types" "[I", Cond.methodLink RX2 63 yX0_wordsIn, Cond.methodLink RX2 66 yX2_takeIfBetter, Cond.instanceMethod yX2_takeIfBetter, Cond.selects RX2 yX2_takeIfBetter yX2_takeIfBetter, Cond.code yX2_takeIfBetter cX2_takeIfBetter 5 none, Cond.methodLink RX2 70 yX1_hasSameWords, Cond.instanceMethod yX1_hasSameWords, Cond.selects RX1 yX1_hasSameWords yX1_hasSameWords, Cond.code yX1_hasSameWords cX1_hasSameWords 5 (some .boolean), Cond.methodLink RX2 74 yX2_listStarts, Cond.instanceMethod yX2_listStarts, Cond.selects RX2 yX2_listStarts yX2_listStarts, Cond.code yX2_listStarts cX2_listStarts 3 none]
def wsX4_digest_r10 : List Cond := [Cond.methodLink RX4 194 yX4_bestStart, Cond.instanceMethod yX4_bestStart, Cond.selects RX4 yX4_bestStart yX4_bestStart, Cond.code yX4_bestStart cX4_bestStart 5 (some .int), Cond.methodLink RX4 250 yX2_partWithNew, Cond.instanceMethod yX2_partWithNew, Cond.selects RX2 yX2_partWithNew yX2_partWithNew, Cond.code yX2_partWithNew cX2_partWithNew 5 none, Cond.methodLink RX4 238 yX4_withCodes, Cond.instanceMethod yX4_withCodes, Cond.selects RX4 yX4_withCodes yX4_withCodes, Cond.code yX4_withCodes cX4_withCodes 6 (some .long), Cond.methodLink RX4 96 yX0_wordsIn, Cond.methodLink RX4 136 yX2_groupsWith, Cond.instanceMethod yX2_groupsWith, Cond.selects RX2 yX2_groupsWith yX2_groupsWith, Cond.code yX2_groupsWith cX2_groupsWith 4 (some .int), Cond.methodLink RX2 32 yX2_codeAt, Cond.methodLink RX4 242 yX4_withWords, Cond.instanceMethod yX4_withWords, Cond.selects RX4 yX4_withWords yX4_withWords, Cond.code yX4_withWords cX4_withWords 6 (some .long), Cond.methodLink RX4 114 yX1_typeAt, Cond.methodLink RX4 245 yX4_withGroups]
def wsX4_digest_r11 : List Cond := [Cond.instanceMethod yX4_withGroups, Cond.selects RX4 yX4_withGroups yX4_withGroups, Cond.code yX4_withGroups cX4_withGroups 6 (some .long)]
def wsX4_digest : List Cond := .code yX4_digest cX4_digest 4 (some .long) :: ((wsX4_digest_r1 ++ (wsX4_digest_r2 ++ (wsX4_digest_r3 ++ (wsX4_digest_r4 ++ (wsX4_digest_r5 ++ (wsX4_digest_r6 ++ (wsX4_digest_r7 ++ (wsX4_digest_r8 ++ (wsX4_digest_r9 ++ (wsX4_digest_r10 ++ wsX4_digest_r11)))))))))) ++ wsX40 ++ wsX00 ++ wsX10 ++ wsX20 ++ wsX30)
def wsX5_init : List Cond := .code yX5_init cX5_init 1 none :: ([.methodLink RX5 1 objectInit, .instanceMethod objectInit, .code objectInit ⟨#[0xb1]⟩ 1 none, .arrayClass .int, .fieldLink RX5 9 "TelegraphDeskModel" "key" "[I", .fieldLink RX5 13 "TelegraphDeskModel" "length" "[I", .fieldLink RX5 16 "TelegraphDeskModel" "type" "[I", .fieldLink RX5 19 "TelegraphDeskModel" "quality" "I", .fieldLink RX5 23 "TelegraphDeskModel" "fewest" "[I", .fieldLink RX5 26 "TelegraphDeskModel" "first" "[I"] ++ wsX50)
def wsX5_thrown : List Cond := .code yX5_thrown cX5_thrown 1 (some .int) :: ([.fieldLink RX5 29 "TelegraphDeskModel" "thrown" "I"] ++ wsX50)
def wsX5_fail : List Cond := .code yX5_fail cX5_fail 2 (some .int) :: ([.fieldLink RX5 29 "TelegraphDeskModel" "thrown" "I"] ++ wsX50)
def wsX5_told : List Cond := .code yX5_told cX5_told 2 (some .int) :: ([.fieldLink RX5 29 "TelegraphDeskModel" "thrown" "I"] ++ wsX50)
def wsX5_isIn : List Cond := .code yX5_isIn cX5_isIn 3 (some .boolean) :: ([])
def wsX5_isType : List Cond := .code yX5_isType cX5_isType 1 (some .boolean) :: ([.methodLink RX5 32 yX5_isIn, .static yX5_isIn, .initialized RX5, .code yX5_isIn cX5_isIn 3 (some .boolean)])
def wsX5_isCode : List Cond := .code yX5_isCode cX5_isCode 2 (some .boolean) :: ([.fieldLink RX5 36 "TelegraphDeskModel" "codes" "I", .methodLink RX5 32 yX5_isIn, .static yX5_isIn, .initialized RX5, .code yX5_isIn cX5_isIn 3 (some .boolean)] ++ wsX50)
def wsX5_keyAt : List Cond := .code yX5_keyAt cX5_keyAt 5 (some .int) :: ([.fieldLink RX5 39 "TelegraphDeskModel" "words" "I", .fieldLink RX5 16 "TelegraphDeskModel" "type" "[I"] ++ wsX50)
def wsX5_part : List Cond := .code yX5_part cX5_part 8 none :: ([.fieldLink RX5 23 "TelegraphDeskModel" "fewest" "[I", .fieldLink RX5 39 "TelegraphDeskModel" "words" "I", .fieldLink RX5 26 "TelegraphDeskModel" "first" "[I", .fieldLink RX5 13 "TelegraphDeskModel" "length" "[I", .fieldLink RX5 9 "TelegraphDeskModel" "key" "[I", .methodLink RX5 42 yX5_keyAt, .instanceMethod yX5_keyAt, .selects RX5 yX5_keyAt yX5_keyAt, .initialized RX5, .code yX5_keyAt cX5_keyAt 5 (some .int), .fieldLink RX5 16 "TelegraphDeskModel" "type" "[I"] ++ wsX50)
def wsX5_all : List Cond := .code yX5_all cX5_all 1 (some .int) :: ([.fieldLink RX5 36 "TelegraphDeskModel" "codes" "I", .fieldLink RX5 23 "TelegraphDeskModel" "fewest" "[I", .methodLink RX5 46 yX5_part, .instanceMethod yX5_part, .selects RX5 yX5_part yX5_part, .initialized RX5, .code yX5_part cX5_part 8 none, .fieldLink RX5 39 "TelegraphDeskModel" "words" "I", .fieldLink RX5 26 "TelegraphDeskModel" "first" "[I", .fieldLink RX5 13 "TelegraphDeskModel" "length" "[I", .fieldLink RX5 9 "TelegraphDeskModel" "key" "[I", .methodLink RX5 42 yX5_keyAt, .instanceMethod yX5_keyAt, .selects RX5 yX5_keyAt yX5_keyAt, .code yX5_keyAt cX5_keyAt 5 (some .int), .fieldLink RX5 16 "TelegraphDeskModel" "type" "[I"] ++ wsX50)
def wsX5_next : List Cond := .code yX5_next cX5_next 2 (some .int) :: ([.fieldLink RX5 26 "TelegraphDeskModel" "first" "[I", .fieldLink RX5 13 "TelegraphDeskModel" "length" "[I"] ++ wsX50)
def wsX5_start : List Cond := .code yX5_start cX5_start 4 (some .int) :: ([.methodLink RX5 50 yX5_next, .instanceMethod yX5_next, .selects RX5 yX5_next yX5_next, .initialized RX5, .code yX5_next cX5_next 2 (some .int), .fieldLink RX5 26 "TelegraphDeskModel" "first" "[I", .fieldLink RX5 13 "TelegraphDeskModel" "length" "[I"] ++ wsX50)
def wsX5_count : List Cond := .code yX5_count cX5_count 3 (some .int) :: ([.fieldLink RX5 36 "TelegraphDeskModel" "codes" "I", .fieldLink RX5 39 "TelegraphDeskModel" "words" "I", .fieldLink RX5 26 "TelegraphDeskModel" "first" "[I", .fieldLink RX5 16 "TelegraphDeskModel" "type" "[I", .methodLink RX5 46 yX5_part, .instanceMethod yX5_part, .selects RX5 yX5_part yX5_part, .initialized RX5, .code yX5_part cX5_part 8 none, .fieldLink RX5 23 "TelegraphDeskModel" "fewest" "[I", .fieldLink RX5 13 "TelegraphDeskModel" "length" "[I", .fieldLink RX5 9 "TelegraphDeskModel" "key" "[I", .methodLink RX5 42 yX5_keyAt, .instanceMethod yX5_keyAt, .selects RX5 yX5_keyAt yX5_keyAt, .code yX5_keyAt cX5_keyAt 5 (some .int), .methodLink RX5 50 yX5_next, .instanceMethod yX5_next, .selects RX5 yX5_next yX5_next, .code yX5_next cX5_next 2 (some .int)] ++ wsX50)
def wsX5_price : List Cond := .code yX5_price cX5_price 2 (some .int) :: ([.fieldLink RX5 39 "TelegraphDeskModel" "words" "I", .methodLink RX5 54 Lib.Math.max.name, .static Lib.Math.max.name, .initialized "java/lang/Math", .code Lib.Math.max.name Lib.Math.max.code 2 (some .int)] ++ wsX50)
def wsX5_priceNow_r1 : List Cond := [Cond.methodLink RX5 59 yX5_count, Cond.instanceMethod yX5_count, Cond.selects RX5 yX5_count yX5_count, Cond.initialized RX5, Cond.code yX5_count cX5_count 3 (some .int), Cond.fieldLink RX5 36 "TelegraphDeskModel" "codes" "I", Cond.fieldLink RX5 39 "TelegraphDeskModel" "words" "I", Cond.fieldLink RX5 26 "TelegraphDeskModel" "first" "[I", Cond.fieldLink RX5 16 "TelegraphDeskModel" "type" "[I", Cond.methodLink RX5 46 yX5_part, Cond.instanceMethod yX5_part, Cond.selects RX5 yX5_part yX5_part, Cond.code yX5_part cX5_part 8 none, Cond.fieldLink RX5 23 "TelegraphDeskModel" "fewest" "[I", Cond.fieldLink RX5 13 "TelegraphDeskModel" "length" "[I", Cond.fieldLink RX5 9 "TelegraphDeskModel" "key" "[I", Cond.methodLink RX5 42 yX5_keyAt, Cond.instanceMethod yX5_keyAt, Cond.selects RX5 yX5_keyAt yX5_keyAt, Cond.code yX5_keyAt cX5_keyAt 5 (some .int), Cond.methodLink RX5 50 yX5_next, Cond.instanceMethod yX5_next, Cond.selects RX5 yX5_next yX5_next, Cond.code yX5_next cX5_next 2 (some .int)]
def wsX5_priceNow_r2 : List Cond := [Cond.methodLink RX5 63 yX5_price, Cond.instanceMethod yX5_price, Cond.selects RX5 yX5_price yX5_price, Cond.code yX5_price cX5_price 2 (some .int), Cond.methodLink RX5 54 Lib.Math.max.name, Cond.static Lib.Math.max.name, Cond.initialized "java/lang/Math", Cond.code Lib.Math.max.name Lib.Math.max.code 2 (some .int)]
def wsX5_priceNow : List Cond := .code yX5_priceNow cX5_priceNow 1 (some .int) :: ((wsX5_priceNow_r1 ++ wsX5_priceNow_r2) ++ wsX50)
def wsX5_priceOfWords : List Cond := .code yX5_priceOfWords cX5_priceOfWords 3 (some .int) :: ([.fieldLink RX5 39 "TelegraphDeskModel" "words" "I", .fieldLink RX5 16 "TelegraphDeskModel" "type" "[I", .methodLink RX5 63 yX5_price, .instanceMethod yX5_price, .selects RX5 yX5_price yX5_price, .initialized RX5, .code yX5_price cX5_price 2 (some .int), .methodLink RX5 54 Lib.Math.max.name, .static Lib.Math.max.name, .initialized "java/lang/Math", .code Lib.Math.max.name Lib.Math.max.code 2 (some .int)] ++ wsX50)
def wsX5_isGarbled : List Cond := .code yX5_isGarbled cX5_isGarbled 2 (some .boolean) :: ([])
def wsX5_go : List Cond := .code yX5_go cX5_go 6 none :: ([.fieldLink RX5 66 "TelegraphDeskModel" "goes" "I", .fieldLink RX5 69 "TelegraphDeskModel" "asked" "I", .fieldLink RX5 72 "TelegraphDeskModel" "gone" "I", .fieldLink RX5 75 "TelegraphDeskModel" "garbledFirst" "I", .fieldLink RX5 78 "TelegraphDeskModel" "sent" "I", .methodLink RX5 81 yX5_isGarbled, .static yX5_isGarbled, .initialized RX5, .code yX5_isGarbled cX5_isGarbled 2 (some .boolean)] ++ wsX50)
def wsX5_addCode : List Cond := .code yX5_addCode cX5_addCode 8 (some .int) :: ([.fieldLink RX5 29 "TelegraphDeskModel" "thrown" "I", .fieldLink RX5 36 "TelegraphDeskModel" "codes" "I", .fieldLink RX5 9 "TelegraphDeskModel" "key" "[I", .fieldLink RX5 13 "TelegraphDeskModel" "length" "[I", .methodLink RX5 85 yX5_isType, .static yX5_isType, .initialized RX5, .code yX5_isType cX5_isType 1 (some .boolean), .methodLink RX5 32 yX5_isIn, .static yX5_isIn, .code yX5_isIn cX5_isIn 3 (some .boolean), .methodLink RX5 89 yX5_fail, .instanceMethod yX5_fail, .selects RX5 yX5_fail yX5_fail, .code yX5_fail cX5_fail 2 (some .int)] ++ wsX50)
def wsX5_dropCode : List Cond := .code yX5_dropCode cX5_dropCode 4 (some .int) :: ([.fieldLink RX5 29 "TelegraphDeskModel" "thrown" "I", .fieldLink RX5 13 "TelegraphDeskModel" "length" "[I", .fieldLink RX5 36 "TelegraphDeskModel" "codes" "I", .fieldLink RX5 9 "TelegraphDeskModel" "key" "[I", .methodLink RX5 92 yX5_isCode, .instanceMethod yX5_isCode, .selects RX5 yX5_isCode yX5_isCode, .initialized RX5, .code yX5_isCode cX5_isCode 2 (some .boolean), .methodLink RX5 32 yX5_isIn, .static yX5_isIn, .code yX5_isIn cX5_isIn 3 (some .boolean), .methodLink RX5 89 yX5_fail, .instanceMethod yX5_fail, .selects RX5 yX5_fail yX5_fail, .code yX5_fail cX5_fail 2 (some .int)] ++ wsX50)
def wsX5_codes : List Cond := .code yX5_codes cX5_codes 1 (some .int) :: ([.fieldLink RX5 36 "TelegraphDeskModel" "codes" "I", .methodLink RX5 95 yX5_told, .instanceMethod yX5_told, .selects RX5 yX5_told yX5_told, .initialized RX5, .code yX5_told cX5_told 2 (some .int), .fieldLink RX5 29 "TelegraphDeskModel" "thrown" "I"] ++ wsX50)
def wsX5_lengthOf : List Cond := .code yX5_lengthOf cX5_lengthOf 2 (some .int) :: ([.fieldLink RX5 29 "TelegraphDeskModel" "thrown" "I", .fieldLink RX5 13 "TelegraphDeskModel" "length" "[I", .methodLink RX5 92 yX5_isCode, .instanceMethod yX5_isCode, .selects RX5 yX5_isCode yX5_isCode, .initialized RX5, .code yX5_isCode cX5_isCode 2 (some .boolean), .fieldLink RX5 36 "TelegraphDeskModel" "codes" "I", .methodLink RX5 32 yX5_isIn, .static yX5_isIn, .code yX5_isIn cX5_isIn 3 (some .boolean), .methodLink RX5 89 yX5_fail, .instanceMethod yX5_fail, .selects RX5 yX5_fail yX5_fail, .code yX5_fail cX5_fail 2 (some .int)] ++ wsX50)
def wsX5_write : List Cond := .code yX5_write cX5_write 2 (some .int) :: ([.fieldLink RX5 29 "TelegraphDeskModel" "thrown" "I", .fieldLink RX5 39 "TelegraphDeskModel" "words" "I", .fieldLink RX5 16 "TelegraphDeskModel" "type" "[I", .methodLink RX5 85 yX5_isType, .static yX5_isType, .initialized RX5, .code yX5_isType cX5_isType 1 (some .boolean), .methodLink RX5 32 yX5_isIn, .static yX5_isIn, .code yX5_isIn cX5_isIn 3 (some .boolean), .methodLink RX5 89 yX5_fail, .instanceMethod yX5_fail, .selects RX5 yX5_fail yX5_fail, .code yX5_fail cX5_fail 2 (some .int)] ++ wsX50)
def wsX5_strike : List Cond := .code yX5_strike cX5_strike 1 (some .int) :: ([.fieldLink RX5 29 "TelegraphDeskModel" "thrown" "I", .fieldLink RX5 39 "TelegraphDeskModel" "words" "I", .fieldLink RX5 16 "TelegraphDeskModel" "type" "[I", .methodLink RX5 89 yX5_fail, .instanceMethod yX5_fail, .selects RX5 yX5_fail yX5_fail, .initialized RX5, .code yX5_fail cX5_fail 2 (some .int)] ++ wsX50)
def wsX5_clear : List Cond := .code yX5_clear cX5_clear 2 (some .int) :: ([.fieldLink RX5 39 "TelegraphDeskModel" "words" "I", .methodLink RX5 95 yX5_told, .instanceMethod yX5_told, .selects RX5 yX5_told yX5_told, .initialized RX5, .code yX5_told cX5_told 2 (some .int), .fieldLink RX5 29 "TelegraphDeskModel" "thrown" "I"] ++ wsX50)
def wsX5_words : List Cond := .code yX5_words cX5_words 1 (some .int) :: ([.fieldLink RX5 39 "TelegraphDeskModel" "words" "I", .methodLink RX5 95 yX5_told, .instanceMethod yX5_told, .selects RX5 yX5_told yX5_told, .initialized RX5, .code yX5_told cX5_told 2 (some .int), .fieldLink RX5 29 "TelegraphDeskModel" "thrown" "I"] ++ wsX50)
def wsX5_typeOf : List Cond := .code yX5_typeOf cX5_typeOf 2 (some .int) :: ([.fieldLink RX5 29 "TelegraphDeskModel" "thrown" "I", .fieldLink RX5 39 "TelegraphDeskModel" "words" "I", .fieldLink RX5 16 "TelegraphDeskModel" "type" "[I", .methodLink RX5 32 yX5_isIn, .static yX5_isIn, .initialized RX5, .code yX5_isIn cX5_isIn 3 (some .boolean), .methodLink RX5 89 yX5_fail, .instanceMethod yX5_fail, .selects RX5 yX5_fail yX5_fail, .code yX5_fail cX5_fail 2 (some .int)] ++ wsX50)
def wsX5_groups_r1 : List Cond := [Cond.methodLink RX5 98 yX5_all, Cond.instanceMethod yX5_all, Cond.selects RX5 yX5_all yX5_all, Cond.initialized RX5, Cond.code yX5_all cX5_all 1 (some .int), Cond.fieldLink RX5 36 "TelegraphDeskModel" "codes" "I", Cond.fieldLink RX5 23 "TelegraphDeskModel" "fewest" "[I", Cond.methodLink RX5 46 yX5_part, Cond.instanceMethod yX5_part, Cond.selects RX5 yX5_part yX5_part, Cond.code yX5_part cX5_part 8 none, Cond.fieldLink RX5 39 "TelegraphDeskModel" "words" "I", Cond.fieldLink RX5 26 "TelegraphDeskModel" "first" "[I", Cond.fieldLink RX5 13 "TelegraphDeskModel" "length" "[I", Cond.fieldLink RX5 9 "TelegraphDeskModel" "key" "[I", Cond.methodLink RX5 42 yX5_keyAt, Cond.instanceMethod yX5_keyAt, Cond.selects RX5 yX5_keyAt yX5_keyAt, Cond.code yX5_keyAt cX5_keyAt 5 (some .int), Cond.fieldLink RX5 16 "TelegraphDeskModel" "type" "[I", Cond.methodLink RX5 95 yX5_told, Cond.instanceMethod yX5_told, Cond.selects RX5 yX5_told yX5_told, Cond.code yX5_told cX5_told 2 (some .int)]
def wsX5_groups_r2 : List Cond := [Cond.fieldLink RX5 29 "TelegraphDeskModel" "thrown" "I"]
def wsX5_groups : List Cond := .code yX5_groups cX5_groups 1 (some .int) :: ((wsX5_groups_r1 ++ wsX5_groups_r2) ++ wsX50)
def wsX5_codeOf_r1 : List Cond := [Cond.fieldLink RX5 29 "TelegraphDeskModel" "thrown" "I", Cond.fieldLink RX5 26 "TelegraphDeskModel" "first" "[I", Cond.methodLink RX5 98 yX5_all, Cond.instanceMethod yX5_all, Cond.selects RX5 yX5_all yX5_all, Cond.initialized RX5, Cond.code yX5_all cX5_all 1 (some .int), Cond.fieldLink RX5 36 "TelegraphDeskModel" "codes" "I", Cond.fieldLink RX5 23 "TelegraphDeskModel" "fewest" "[I", Cond.methodLink RX5 46 yX5_part, Cond.instanceMethod yX5_part, Cond.selects RX5 yX5_part yX5_part, Cond.code yX5_part cX5_part 8 none, Cond.fieldLink RX5 39 "TelegraphDeskModel" "words" "I", Cond.fieldLink RX5 13 "TelegraphDeskModel" "length" "[I", Cond.fieldLink RX5 9 "TelegraphDeskModel" "key" "[I", Cond.methodLink RX5 42 yX5_keyAt, Cond.instanceMethod yX5_keyAt, Cond.selects RX5 yX5_keyAt yX5_keyAt, Cond.code yX5_keyAt cX5_keyAt 5 (some .int), Cond.fieldLink RX5 16 "TelegraphDeskModel" "type" "[I", Cond.methodLink RX5 32 yX5_isIn, Cond.static yX5_isIn, Cond.code yX5_isIn cX5_isIn 3 (some .boolean)]
def wsX5_codeOf_r2 : List Cond := [Cond.methodLink RX5 101 yX5_start, Cond.instanceMethod yX5_start, Cond.selects RX5 yX5_start yX5_start, Cond.code yX5_start cX5_start 4 (some .int), Cond.methodLink RX5 50 yX5_next, Cond.instanceMethod yX5_next, Cond.selects RX5 yX5_next yX5_next, Cond.code yX5_next cX5_next 2 (some .int), Cond.methodLink RX5 89 yX5_fail, Cond.instanceMethod yX5_fail, Cond.selects RX5 yX5_fail yX5_fail, Cond.code yX5_fail cX5_fail 2 (some .int)]
def wsX5_codeOf : List Cond := .code yX5_codeOf cX5_codeOf 2 (some .int) :: ((wsX5_codeOf_r1 ++ wsX5_codeOf_r2) ++ wsX50)
def wsX5_startOf_r1 : List Cond := [Cond.fieldLink RX5 29 "TelegraphDeskModel" "thrown" "I", Cond.methodLink RX5 98 yX5_all, Cond.instanceMethod yX5_all, Cond.selects RX5 yX5_all yX5_all, Cond.initialized RX5, Cond.code yX5_all cX5_all 1 (some .int), Cond.fieldLink RX5 36 "TelegraphDeskModel" "codes" "I", Cond.fieldLink RX5 23 "TelegraphDeskModel" "fewest" "[I", Cond.methodLink RX5 46 yX5_part, Cond.instanceMethod yX5_part, Cond.selects RX5 yX5_part yX5_part, Cond.code yX5_part cX5_part 8 none, Cond.fieldLink RX5 39 "TelegraphDeskModel" "words" "I", Cond.fieldLink RX5 26 "TelegraphDeskModel" "first" "[I", Cond.fieldLink RX5 13 "TelegraphDeskModel" "length" "[I", Cond.fieldLink RX5 9 "TelegraphDeskModel" "key" "[I", Cond.methodLink RX5 42 yX5_keyAt, Cond.instanceMethod yX5_keyAt, Cond.selects RX5 yX5_keyAt yX5_keyAt, Cond.code yX5_keyAt cX5_keyAt 5 (some .int), Cond.fieldLink RX5 16 "TelegraphDeskModel" "type" "[I", Cond.methodLink RX5 32 yX5_isIn, Cond.static yX5_isIn, Cond.code yX5_isIn cX5_isIn 3 (some .boolean)]
def wsX5_startOf_r2 : List Cond := [Cond.methodLink RX5 101 yX5_start, Cond.instanceMethod yX5_start, Cond.selects RX5 yX5_start yX5_start, Cond.code yX5_start cX5_start 4 (some .int), Cond.methodLink RX5 50 yX5_next, Cond.instanceMethod yX5_next, Cond.selects RX5 yX5_next yX5_next, Cond.code yX5_next cX5_next 2 (some .int), Cond.methodLink RX5 89 yX5_fail, Cond.instanceMethod yX5_fail, Cond.selects RX5 yX5_fail yX5_fail, Cond.code yX5_fail cX5_fail 2 (some .int)]
def wsX5_startOf : List Cond := .code yX5_startOf cX5_startOf 2 (some .int) :: ((wsX5_startOf_r1 ++ wsX5_startOf_r2) ++ wsX50)
def wsX5_uses : List Cond := .code yX5_uses cX5_uses 4 (some .int) :: ([.fieldLink RX5 36 "TelegraphDeskModel" "codes" "I", .fieldLink RX5 39 "TelegraphDeskModel" "words" "I", .fieldLink RX5 26 "TelegraphDeskModel" "first" "[I", .methodLink RX5 46 yX5_part, .instanceMethod yX5_part, .selects RX5 yX5_part yX5_part, .initialized RX5, .code yX5_part cX5_part 8 none, .fieldLink RX5 23 "TelegraphDeskModel" "fewest" "[I", .fieldLink RX5 13 "TelegraphDeskModel" "length" "[I", .fieldLink RX5 9 "TelegraphDeskModel" "key" "[I", .methodLink RX5 42 yX5_keyAt, .instanceMethod yX5_keyAt, .selects RX5 yX5_keyAt yX5_keyAt, .code yX5_keyAt cX5_keyAt 5 (some .int), .fieldLink RX5 16 "TelegraphDeskModel" "type" "[I", .methodLink RX5 50 yX5_next, .instanceMethod yX5_next, .selects RX5 yX5_next yX5_next, .code yX5_next cX5_next 2 (some .int)] ++ wsX50)
def wsX5_usesOf_r1 : List Cond := [Cond.fieldLink RX5 29 "TelegraphDeskModel" "thrown" "I", Cond.methodLink RX5 92 yX5_isCode, Cond.instanceMethod yX5_isCode, Cond.selects RX5 yX5_isCode yX5_isCode, Cond.initialized RX5, Cond.code yX5_isCode cX5_isCode 2 (some .boolean), Cond.fieldLink RX5 36 "TelegraphDeskModel" "codes" "I", Cond.methodLink RX5 32 yX5_isIn, Cond.static yX5_isIn, Cond.code yX5_isIn cX5_isIn 3 (some .boolean), Cond.methodLink RX5 104 yX5_uses, Cond.instanceMethod yX5_uses, Cond.selects RX5 yX5_uses yX5_uses, Cond.code yX5_uses cX5_uses 4 (some .int), Cond.fieldLink RX5 39 "TelegraphDeskModel" "words" "I", Cond.fieldLink RX5 26 "TelegraphDeskModel" "first" "[I", Cond.methodLink RX5 46 yX5_part, Cond.instanceMethod yX5_part, Cond.selects RX5 yX5_part yX5_part, Cond.code yX5_part cX5_part 8 none, Cond.fieldLink RX5 23 "TelegraphDeskModel" "fewest" "[I", Cond.fieldLink RX5 13 "TelegraphDeskModel" "length" "[I", Cond.fieldLink RX5 9 "TelegraphDeskModel" "key" "[I", Cond.methodLink RX5 42 yX5_keyAt]
def wsX5_usesOf_r2 : List Cond := [Cond.instanceMethod yX5_keyAt, Cond.selects RX5 yX5_keyAt yX5_keyAt, Cond.code yX5_keyAt cX5_keyAt 5 (some .int), Cond.fieldLink RX5 16 "TelegraphDeskModel" "type" "[I", Cond.methodLink RX5 50 yX5_next, Cond.instanceMethod yX5_next, Cond.selects RX5 yX5_next yX5_next, Cond.code yX5_next cX5_next 2 (some .int), Cond.methodLink RX5 89 yX5_fail, Cond.instanceMethod yX5_fail, Cond.selects RX5 yX5_fail yX5_fail, Cond.code yX5_fail cX5_fail 2 (some .int)]
def wsX5_usesOf : List Cond := .code yX5_usesOf cX5_usesOf 2 (some .int) :: ((wsX5_usesOf_r1 ++ wsX5_usesOf_r2) ++ wsX50)
def wsX5_counted_r1 : List Cond := [Cond.methodLink RX5 59 yX5_count, Cond.instanceMethod yX5_count, Cond.selects RX5 yX5_count yX5_count, Cond.initialized RX5, Cond.code yX5_count cX5_count 3 (some .int), Cond.fieldLink RX5 36 "TelegraphDeskModel" "codes" "I", Cond.fieldLink RX5 39 "TelegraphDeskModel" "words" "I", Cond.fieldLink RX5 26 "TelegraphDeskModel" "first" "[I", Cond.fieldLink RX5 16 "TelegraphDeskModel" "type" "[I", Cond.methodLink RX5 46 yX5_part, Cond.instanceMethod yX5_part, Cond.selects RX5 yX5_part yX5_part, Cond.code yX5_part cX5_part 8 none, Cond.fieldLink RX5 23 "TelegraphDeskModel" "fewest" "[I", Cond.fieldLink RX5 13 "TelegraphDeskModel" "length" "[I", Cond.fieldLink RX5 9 "TelegraphDeskModel" "key" "[I", Cond.methodLink RX5 42 yX5_keyAt, Cond.instanceMethod yX5_keyAt, Cond.selects RX5 yX5_keyAt yX5_keyAt, Cond.code yX5_keyAt cX5_keyAt 5 (some .int), Cond.methodLink RX5 50 yX5_next, Cond.instanceMethod yX5_next, Cond.selects RX5 yX5_next yX5_next, Cond.code yX5_next cX5_next 2 (some .int)]
def wsX5_counted_r2 : List Cond := [Cond.methodLink RX5 95 yX5_told, Cond.instanceMethod yX5_told, Cond.selects RX5 yX5_told yX5_told, Cond.code yX5_told cX5_told 2 (some .int), Cond.fieldLink RX5 29 "TelegraphDeskModel" "thrown" "I"]
def wsX5_counted : List Cond := .code yX5_counted cX5_counted 1 (some .int) :: ((wsX5_counted_r1 ++ wsX5_counted_r2) ++ wsX50)
def wsX5_cost_r1 : List Cond := [Cond.methodLink RX5 107 yX5_priceNow, Cond.instanceMethod yX5_priceNow, Cond.selects RX5 yX5_priceNow yX5_priceNow, Cond.initialized RX5, Cond.code yX5_priceNow cX5_priceNow 1 (some .int), Cond.methodLink RX5 59 yX5_count, Cond.instanceMethod yX5_count, Cond.selects RX5 yX5_count yX5_count, Cond.code yX5_count cX5_count 3 (some .int), Cond.fieldLink RX5 36 "TelegraphDeskModel" "codes" "I", Cond.fieldLink RX5 39 "TelegraphDeskModel" "words" "I", Cond.fieldLink RX5 26 "TelegraphDeskModel" "first" "[I", Cond.fieldLink RX5 16 "TelegraphDeskModel" "type" "[I", Cond.methodLink RX5 46 yX5_part, Cond.instanceMethod yX5_part, Cond.selects RX5 yX5_part yX5_part, Cond.code yX5_part cX5_part 8 none, Cond.fieldLink RX5 23 "TelegraphDeskModel" "fewest" "[I", Cond.fieldLink RX5 13 "TelegraphDeskModel" "length" "[I", Cond.fieldLink RX5 9 "TelegraphDeskModel" "key" "[I", Cond.methodLink RX5 42 yX5_keyAt, Cond.instanceMethod yX5_keyAt, Cond.selects RX5 yX5_keyAt yX5_keyAt, Cond.code yX5_keyAt cX5_keyAt 5 (some .int)]
def wsX5_cost_r2 : List Cond := [Cond.methodLink RX5 50 yX5_next, Cond.instanceMethod yX5_next, Cond.selects RX5 yX5_next yX5_next, Cond.code yX5_next cX5_next 2 (some .int), Cond.methodLink RX5 63 yX5_price, Cond.instanceMethod yX5_price, Cond.selects RX5 yX5_price yX5_price, Cond.code yX5_price cX5_price 2 (some .int), Cond.methodLink RX5 54 Lib.Math.max.name, Cond.static Lib.Math.max.name, Cond.initialized "java/lang/Math", Cond.code Lib.Math.max.name Lib.Math.max.code 2 (some .int), Cond.methodLink RX5 95 yX5_told, Cond.instanceMethod yX5_told, Cond.selects RX5 yX5_told yX5_told, Cond.code yX5_told cX5_told 2 (some .int), Cond.fieldLink RX5 29 "TelegraphDeskModel" "thrown" "I"]
def wsX5_cost : List Cond := .code yX5_cost cX5_cost 1 (some .int) :: ((wsX5_cost_r1 ++ wsX5_cost_r2) ++ wsX50)
def wsX5_saved_r1 : List Cond := [Cond.methodLink RX5 110 yX5_priceOfWords, Cond.instanceMethod yX5_priceOfWords, Cond.selects RX5 yX5_priceOfWords yX5_priceOfWords, Cond.initialized RX5, Cond.code yX5_priceOfWords cX5_priceOfWords 3 (some .int), Cond.fieldLink RX5 39 "TelegraphDeskModel" "words" "I", Cond.fieldLink RX5 16 "TelegraphDeskModel" "type" "[I", Cond.methodLink RX5 63 yX5_price, Cond.instanceMethod yX5_price, Cond.selects RX5 yX5_price yX5_price, Cond.code yX5_price cX5_price 2 (some .int), Cond.methodLink RX5 54 Lib.Math.max.name, Cond.static Lib.Math.max.name, Cond.initialized "java/lang/Math", Cond.code Lib.Math.max.name Lib.Math.max.code 2 (some .int), Cond.methodLink RX5 107 yX5_priceNow, Cond.instanceMethod yX5_priceNow, Cond.selects RX5 yX5_priceNow yX5_priceNow, Cond.code yX5_priceNow cX5_priceNow 1 (some .int), Cond.methodLink RX5 59 yX5_count, Cond.instanceMethod yX5_count, Cond.selects RX5 yX5_count yX5_count, Cond.code yX5_count cX5_count 3 (some .int), Cond.fieldLink RX5 36 "TelegraphDeskModel" "codes" "I"]
def wsX5_saved_r2 : List Cond := [Cond.fieldLink RX5 26 "TelegraphDeskModel" "first" "[I", Cond.methodLink RX5 46 yX5_part, Cond.instanceMethod yX5_part, Cond.selects RX5 yX5_part yX5_part, Cond.code yX5_part cX5_part 8 none, Cond.fieldLink RX5 23 "TelegraphDeskModel" "fewest" "[I", Cond.fieldLink RX5 13 "TelegraphDeskModel" "length" "[I", Cond.fieldLink RX5 9 "TelegraphDeskModel" "key" "[I", Cond.methodLink RX5 42 yX5_keyAt, Cond.instanceMethod yX5_keyAt, Cond.selects RX5 yX5_keyAt yX5_keyAt, Cond.code yX5_keyAt cX5_keyAt 5 (some .int), Cond.methodLink RX5 50 yX5_next, Cond.instanceMethod yX5_next, Cond.selects RX5 yX5_next yX5_next, Cond.code yX5_next cX5_next 2 (some .int), Cond.methodLink RX5 95 yX5_told, Cond.instanceMethod yX5_told, Cond.selects RX5 yX5_told yX5_told, Cond.code yX5_told cX5_told 2 (some .int), Cond.fieldLink RX5 29 "TelegraphDeskModel" "thrown" "I"]
def wsX5_saved : List Cond := .code yX5_saved cX5_saved 1 (some .int) :: ((wsX5_saved_r1 ++ wsX5_saved_r2) ++ wsX50)
def wsX5_setQuality : List Cond := .code yX5_setQuality cX5_setQuality 3 (some .int) :: ([.fieldLink RX5 29 "TelegraphDeskModel" "thrown" "I", .fieldLink RX5 19 "TelegraphDeskModel" "quality" "I", .methodLink RX5 32 yX5_isIn, .static yX5_isIn, .initialized RX5, .code yX5_isIn cX5_isIn 3 (some .boolean), .methodLink RX5 89 yX5_fail, .instanceMethod yX5_fail, .selects RX5 yX5_fail yX5_fail, .code yX5_fail cX5_fail 2 (some .int)] ++ wsX50)
def wsX5_send_r1 : List Cond := [Cond.fieldLink RX5 29 "TelegraphDeskModel" "thrown" "I", Cond.fieldLink RX5 39 "TelegraphDeskModel" "words" "I", Cond.fieldLink RX5 113 "TelegraphDeskModel" "earned" "I", Cond.fieldLink RX5 19 "TelegraphDeskModel" "quality" "I", Cond.fieldLink RX5 78 "TelegraphDeskModel" "sent" "I", Cond.fieldLink RX5 66 "TelegraphDeskModel" "goes" "I", Cond.fieldLink RX5 119 "TelegraphDeskModel" "repeats" "I", Cond.fieldLink RX5 69 "TelegraphDeskModel" "asked" "I", Cond.fieldLink RX5 122 "TelegraphDeskModel" "lost" "I", Cond.fieldLink RX5 72 "TelegraphDeskModel" "gone" "I", Cond.methodLink RX5 89 yX5_fail, Cond.instanceMethod yX5_fail, Cond.selects RX5 yX5_fail yX5_fail, Cond.initialized RX5, Cond.code yX5_fail cX5_fail 2 (some .int), Cond.methodLink RX5 107 yX5_priceNow, Cond.instanceMethod yX5_priceNow, Cond.selects RX5 yX5_priceNow yX5_priceNow, Cond.code yX5_priceNow cX5_priceNow 1 (some .int), Cond.methodLink RX5 59 yX5_count, Cond.instanceMethod yX5_count, Cond.selects RX5 yX5_count yX5_count, Cond.code yX5_count cX5_count 3 (some .int), Cond.fieldLink RX5 36 "TelegraphDeskModel" "codes" "I"]
def wsX5_send_r2 : List Cond := [Cond.fieldLink RX5 26 "TelegraphDeskModel" "first" "[I", Cond.fieldLink RX5 16 "TelegraphDeskModel" "type" "[I", Cond.methodLink RX5 46 yX5_part, Cond.instanceMethod yX5_part, Cond.selects RX5 yX5_part yX5_part, Cond.code yX5_part cX5_part 8 none, Cond.fieldLink RX5 23 "TelegraphDeskModel" "fewest" "[I", Cond.fieldLink RX5 13 "TelegraphDeskModel" "length" "[I", Cond.fieldLink RX5 9 "TelegraphDeskModel" "key" "[I", Cond.methodLink RX5 42 yX5_keyAt, Cond.instanceMethod yX5_keyAt, Cond.selects RX5 yX5_keyAt yX5_keyAt, Cond.code yX5_keyAt cX5_keyAt 5 (some .int), Cond.methodLink RX5 50 yX5_next, Cond.instanceMethod yX5_next, Cond.selects RX5 yX5_next yX5_next, Cond.code yX5_next cX5_next 2 (some .int), Cond.methodLink RX5 63 yX5_price, Cond.instanceMethod yX5_price, Cond.selects RX5 yX5_price yX5_price, Cond.code yX5_price cX5_price 2 (some .int), Cond.methodLink RX5 54 Lib.Math.max.name, Cond.static Lib.Math.max.name, Cond.initialized "java/lang/Math"]
def wsX5_send_r3 : List Cond := [Cond.code Lib.Math.max.name Lib.Math.max.code 2 (some .int), Cond.methodLink RX5 98 yX5_all, Cond.instanceMethod yX5_all, Cond.selects RX5 yX5_all yX5_all, Cond.code yX5_all cX5_all 1 (some .int), Cond.methodLink RX5 116 yX5_go, Cond.instanceMethod yX5_go, Cond.selects RX5 yX5_go yX5_go, Cond.code yX5_go cX5_go 6 none, Cond.fieldLink RX5 75 "TelegraphDeskModel" "garbledFirst" "I", Cond.methodLink RX5 81 yX5_isGarbled, Cond.static yX5_isGarbled, Cond.code yX5_isGarbled cX5_isGarbled 2 (some .boolean)]
def wsX5_send : List Cond := .code yX5_send cX5_send 1 (some .int) :: ((wsX5_send_r1 ++ (wsX5_send_r2 ++ wsX5_send_r3)) ++ wsX50)
def wsX5_sentGroups : List Cond := .code yX5_sentGroups cX5_sentGroups 1 (some .int) :: ([.fieldLink RX5 78 "TelegraphDeskModel" "sent" "I", .methodLink RX5 95 yX5_told, .instanceMethod yX5_told, .selects RX5 yX5_told yX5_told, .initialized RX5, .code yX5_told cX5_told 2 (some .int), .fieldLink RX5 29 "TelegraphDeskModel" "thrown" "I"] ++ wsX50)
def wsX5_repeats : List Cond := .code yX5_repeats cX5_repeats 1 (some .int) :: ([.fieldLink RX5 119 "TelegraphDeskModel" "repeats" "I", .methodLink RX5 95 yX5_told, .instanceMethod yX5_told, .selects RX5 yX5_told yX5_told, .initialized RX5, .code yX5_told cX5_told 2 (some .int), .fieldLink RX5 29 "TelegraphDeskModel" "thrown" "I"] ++ wsX50)
def wsX5_lost : List Cond := .code yX5_lost cX5_lost 1 (some .int) :: ([.fieldLink RX5 122 "TelegraphDeskModel" "lost" "I", .methodLink RX5 95 yX5_told, .instanceMethod yX5_told, .selects RX5 yX5_told yX5_told, .initialized RX5, .code yX5_told cX5_told 2 (some .int), .fieldLink RX5 29 "TelegraphDeskModel" "thrown" "I"] ++ wsX50)
def wsX5_earned : List Cond := .code yX5_earned cX5_earned 1 (some .int) :: ([.fieldLink RX5 113 "TelegraphDeskModel" "earned" "I", .methodLink RX5 95 yX5_told, .instanceMethod yX5_told, .selects RX5 yX5_told yX5_told, .initialized RX5, .code yX5_told cX5_told 2 (some .int), .fieldLink RX5 29 "TelegraphDeskModel" "thrown" "I"] ++ wsX50)
def wsX5_until : List Cond := .code yX5_until cX5_until 2 (some .int) :: ([.fieldLink RX5 78 "TelegraphDeskModel" "sent" "I", .fieldLink RX5 19 "TelegraphDeskModel" "quality" "I", .methodLink RX5 81 yX5_isGarbled, .static yX5_isGarbled, .initialized RX5, .code yX5_isGarbled cX5_isGarbled 2 (some .boolean)] ++ wsX50)
def wsX5_untilGarbled : List Cond := .code yX5_untilGarbled cX5_untilGarbled 1 (some .int) :: ([.methodLink RX5 125 yX5_until, .instanceMethod yX5_until, .selects RX5 yX5_until yX5_until, .initialized RX5, .code yX5_until cX5_until 2 (some .int), .fieldLink RX5 78 "TelegraphDeskModel" "sent" "I", .fieldLink RX5 19 "TelegraphDeskModel" "quality" "I", .methodLink RX5 81 yX5_isGarbled, .static yX5_isGarbled, .code yX5_isGarbled cX5_isGarbled 2 (some .boolean), .methodLink RX5 95 yX5_told, .instanceMethod yX5_told, .selects RX5 yX5_told yX5_told, .code yX5_told cX5_told 2 (some .int), .fieldLink RX5 29 "TelegraphDeskModel" "thrown" "I"] ++ wsX50)
def wsX5_garbled_r1 : List Cond := [Cond.fieldLink RX5 19 "TelegraphDeskModel" "quality" "I", Cond.fieldLink RX5 75 "TelegraphDeskModel" "garbledFirst" "I", Cond.methodLink RX5 98 yX5_all, Cond.instanceMethod yX5_all, Cond.selects RX5 yX5_all yX5_all, Cond.initialized RX5, Cond.code yX5_all cX5_all 1 (some .int), Cond.fieldLink RX5 36 "TelegraphDeskModel" "codes" "I", Cond.fieldLink RX5 23 "TelegraphDeskModel" "fewest" "[I", Cond.methodLink RX5 46 yX5_part, Cond.instanceMethod yX5_part, Cond.selects RX5 yX5_part yX5_part, Cond.code yX5_part cX5_part 8 none, Cond.fieldLink RX5 39 "TelegraphDeskModel" "words" "I", Cond.fieldLink RX5 26 "TelegraphDeskModel" "first" "[I", Cond.fieldLink RX5 13 "TelegraphDeskModel" "length" "[I", Cond.fieldLink RX5 9 "TelegraphDeskModel" "key" "[I", Cond.methodLink RX5 42 yX5_keyAt, Cond.instanceMethod yX5_keyAt, Cond.selects RX5 yX5_keyAt yX5_keyAt, Cond.code yX5_keyAt cX5_keyAt 5 (some .int), Cond.fieldLink RX5 16 "TelegraphDeskModel" "type" "[I", Cond.methodLink RX5 116 yX5_go, Cond.instanceMethod yX5_go]
def wsX5_garbled_r2 : List Cond := [Cond.selects RX5 yX5_go yX5_go, Cond.code yX5_go cX5_go 6 none, Cond.fieldLink RX5 66 "TelegraphDeskModel" "goes" "I", Cond.fieldLink RX5 69 "TelegraphDeskModel" "asked" "I", Cond.fieldLink RX5 72 "TelegraphDeskModel" "gone" "I", Cond.fieldLink RX5 78 "TelegraphDeskModel" "sent" "I", Cond.methodLink RX5 81 yX5_isGarbled, Cond.static yX5_isGarbled, Cond.code yX5_isGarbled cX5_isGarbled 2 (some .boolean)]
def wsX5_garbled : List Cond := .code yX5_garbled cX5_garbled 1 (some .int) :: ((wsX5_garbled_r1 ++ wsX5_garbled_r2) ++ wsX50)
def wsX5_wouldBeGarbled_r1 : List Cond := [Cond.methodLink RX5 128 yX5_garbled, Cond.instanceMethod yX5_garbled, Cond.selects RX5 yX5_garbled yX5_garbled, Cond.initialized RX5, Cond.code yX5_garbled cX5_garbled 1 (some .int), Cond.fieldLink RX5 19 "TelegraphDeskModel" "quality" "I", Cond.fieldLink RX5 75 "TelegraphDeskModel" "garbledFirst" "I", Cond.methodLink RX5 98 yX5_all, Cond.instanceMethod yX5_all, Cond.selects RX5 yX5_all yX5_all, Cond.code yX5_all cX5_all 1 (some .int), Cond.fieldLink RX5 36 "TelegraphDeskModel" "codes" "I", Cond.fieldLink RX5 23 "TelegraphDeskModel" "fewest" "[I", Cond.methodLink RX5 46 yX5_part, Cond.instanceMethod yX5_part, Cond.selects RX5 yX5_part yX5_part, Cond.code yX5_part cX5_part 8 none, Cond.fieldLink RX5 39 "TelegraphDeskModel" "words" "I", Cond.fieldLink RX5 26 "TelegraphDeskModel" "first" "[I", Cond.fieldLink RX5 13 "TelegraphDeskModel" "length" "[I", Cond.fieldLink RX5 9 "TelegraphDeskModel" "key" "[I", Cond.methodLink RX5 42 yX5_keyAt, Cond.instanceMethod yX5_keyAt, Cond.selects RX5 yX5_keyAt yX5_keyAt]
def wsX5_wouldBeGarbled_r2 : List Cond := [Cond.code yX5_keyAt cX5_keyAt 5 (some .int), Cond.fieldLink RX5 16 "TelegraphDeskModel" "type" "[I", Cond.methodLink RX5 116 yX5_go, Cond.instanceMethod yX5_go, Cond.selects RX5 yX5_go yX5_go, Cond.code yX5_go cX5_go 6 none, Cond.fieldLink RX5 66 "TelegraphDeskModel" "goes" "I", Cond.fieldLink RX5 69 "TelegraphDeskModel" "asked" "I", Cond.fieldLink RX5 72 "TelegraphDeskModel" "gone" "I", Cond.fieldLink RX5 78 "TelegraphDeskModel" "sent" "I", Cond.methodLink RX5 81 yX5_isGarbled, Cond.static yX5_isGarbled, Cond.code yX5_isGarbled cX5_isGarbled 2 (some .boolean), Cond.methodLink RX5 95 yX5_told, Cond.instanceMethod yX5_told, Cond.selects RX5 yX5_told yX5_told, Cond.code yX5_told cX5_told 2 (some .int), Cond.fieldLink RX5 29 "TelegraphDeskModel" "thrown" "I"]
def wsX5_wouldBeGarbled : List Cond := .code yX5_wouldBeGarbled cX5_wouldBeGarbled 1 (some .int) :: ((wsX5_wouldBeGarbled_r1 ++ wsX5_wouldBeGarbled_r2) ++ wsX50)
def wsX5_again_r1 : List Cond := [Cond.fieldLink RX5 19 "TelegraphDeskModel" "quality" "I", Cond.fieldLink RX5 69 "TelegraphDeskModel" "asked" "I", Cond.methodLink RX5 98 yX5_all, Cond.instanceMethod yX5_all, Cond.selects RX5 yX5_all yX5_all, Cond.initialized RX5, Cond.code yX5_all cX5_all 1 (some .int), Cond.fieldLink RX5 36 "TelegraphDeskModel" "codes" "I", Cond.fieldLink RX5 23 "TelegraphDeskModel" "fewest" "[I", Cond.methodLink RX5 46 yX5_part, Cond.instanceMethod yX5_part, Cond.selects RX5 yX5_part yX5_part, Cond.code yX5_part cX5_part 8 none, Cond.fieldLink RX5 39 "TelegraphDeskModel" "words" "I", Cond.fieldLink RX5 26 "TelegraphDeskModel" "first" "[I", Cond.fieldLink RX5 13 "TelegraphDeskModel" "length" "[I", Cond.fieldLink RX5 9 "TelegraphDeskModel" "key" "[I", Cond.methodLink RX5 42 yX5_keyAt, Cond.instanceMethod yX5_keyAt, Cond.selects RX5 yX5_keyAt yX5_keyAt, Cond.code yX5_keyAt cX5_keyAt 5 (some .int), Cond.fieldLink RX5 16 "TelegraphDeskModel" "type" "[I", Cond.methodLink RX5 116 yX5_go, Cond.instanceMethod yX5_go]
def wsX5_again_r2 : List Cond := [Cond.selects RX5 yX5_go yX5_go, Cond.code yX5_go cX5_go 6 none, Cond.fieldLink RX5 66 "TelegraphDeskModel" "goes" "I", Cond.fieldLink RX5 72 "TelegraphDeskModel" "gone" "I", Cond.fieldLink RX5 75 "TelegraphDeskModel" "garbledFirst" "I", Cond.fieldLink RX5 78 "TelegraphDeskModel" "sent" "I", Cond.methodLink RX5 81 yX5_isGarbled, Cond.static yX5_isGarbled, Cond.code yX5_isGarbled cX5_isGarbled 2 (some .boolean)]
def wsX5_again : List Cond := .code yX5_again cX5_again 1 (some .int) :: ((wsX5_again_r1 ++ wsX5_again_r2) ++ wsX50)
def wsX5_repeatsIfSent_r1 : List Cond := [Cond.methodLink RX5 131 yX5_again, Cond.instanceMethod yX5_again, Cond.selects RX5 yX5_again yX5_again, Cond.initialized RX5, Cond.code yX5_again cX5_again 1 (some .int), Cond.fieldLink RX5 19 "TelegraphDeskModel" "quality" "I", Cond.fieldLink RX5 69 "TelegraphDeskModel" "asked" "I", Cond.methodLink RX5 98 yX5_all, Cond.instanceMethod yX5_all, Cond.selects RX5 yX5_all yX5_all, Cond.code yX5_all cX5_all 1 (some .int), Cond.fieldLink RX5 36 "TelegraphDeskModel" "codes" "I", Cond.fieldLink RX5 23 "TelegraphDeskModel" "fewest" "[I", Cond.methodLink RX5 46 yX5_part, Cond.instanceMethod yX5_part, Cond.selects RX5 yX5_part yX5_part, Cond.code yX5_part cX5_part 8 none, Cond.fieldLink RX5 39 "TelegraphDeskModel" "words" "I", Cond.fieldLink RX5 26 "TelegraphDeskModel" "first" "[I", Cond.fieldLink RX5 13 "TelegraphDeskModel" "length" "[I", Cond.fieldLink RX5 9 "TelegraphDeskModel" "key" "[I", Cond.methodLink RX5 42 yX5_keyAt, Cond.instanceMethod yX5_keyAt, Cond.selects RX5 yX5_keyAt yX5_keyAt]
def wsX5_repeatsIfSent_r2 : List Cond := [Cond.code yX5_keyAt cX5_keyAt 5 (some .int), Cond.fieldLink RX5 16 "TelegraphDeskModel" "type" "[I", Cond.methodLink RX5 116 yX5_go, Cond.instanceMethod yX5_go, Cond.selects RX5 yX5_go yX5_go, Cond.code yX5_go cX5_go 6 none, Cond.fieldLink RX5 66 "TelegraphDeskModel" "goes" "I", Cond.fieldLink RX5 72 "TelegraphDeskModel" "gone" "I", Cond.fieldLink RX5 75 "TelegraphDeskModel" "garbledFirst" "I", Cond.fieldLink RX5 78 "TelegraphDeskModel" "sent" "I", Cond.methodLink RX5 81 yX5_isGarbled, Cond.static yX5_isGarbled, Cond.code yX5_isGarbled cX5_isGarbled 2 (some .boolean), Cond.methodLink RX5 95 yX5_told, Cond.instanceMethod yX5_told, Cond.selects RX5 yX5_told yX5_told, Cond.code yX5_told cX5_told 2 (some .int), Cond.fieldLink RX5 29 "TelegraphDeskModel" "thrown" "I"]
def wsX5_repeatsIfSent : List Cond := .code yX5_repeatsIfSent cX5_repeatsIfSent 1 (some .int) :: ((wsX5_repeatsIfSent_r1 ++ wsX5_repeatsIfSent_r2) ++ wsX50)
def wsX5_wanted_r1 : List Cond := [Cond.fieldLink RX5 72 "TelegraphDeskModel" "gone" "I", Cond.methodLink RX5 98 yX5_all, Cond.instanceMethod yX5_all, Cond.selects RX5 yX5_all yX5_all, Cond.initialized RX5, Cond.code yX5_all cX5_all 1 (some .int), Cond.fieldLink RX5 36 "TelegraphDeskModel" "codes" "I", Cond.fieldLink RX5 23 "TelegraphDeskModel" "fewest" "[I", Cond.methodLink RX5 46 yX5_part, Cond.instanceMethod yX5_part, Cond.selects RX5 yX5_part yX5_part, Cond.code yX5_part cX5_part 8 none, Cond.fieldLink RX5 39 "TelegraphDeskModel" "words" "I", Cond.fieldLink RX5 26 "TelegraphDeskModel" "first" "[I", Cond.fieldLink RX5 13 "TelegraphDeskModel" "length" "[I", Cond.fieldLink RX5 9 "TelegraphDeskModel" "key" "[I", Cond.methodLink RX5 42 yX5_keyAt, Cond.instanceMethod yX5_keyAt, Cond.selects RX5 yX5_keyAt yX5_keyAt, Cond.code yX5_keyAt cX5_keyAt 5 (some .int), Cond.fieldLink RX5 16 "TelegraphDeskModel" "type" "[I", Cond.methodLink RX5 116 yX5_go, Cond.instanceMethod yX5_go, Cond.selects RX5 yX5_go yX5_go]
def wsX5_wanted_r2 : List Cond := [Cond.code yX5_go cX5_go 6 none, Cond.fieldLink RX5 66 "TelegraphDeskModel" "goes" "I", Cond.fieldLink RX5 69 "TelegraphDeskModel" "asked" "I", Cond.fieldLink RX5 75 "TelegraphDeskModel" "garbledFirst" "I", Cond.fieldLink RX5 78 "TelegraphDeskModel" "sent" "I", Cond.methodLink RX5 81 yX5_isGarbled, Cond.static yX5_isGarbled, Cond.code yX5_isGarbled cX5_isGarbled 2 (some .boolean)]
def wsX5_wanted : List Cond := .code yX5_wanted cX5_wanted 3 (some .int) :: ((wsX5_wanted_r1 ++ wsX5_wanted_r2) ++ wsX50)
def wsX5_qualityWanted_r1 : List Cond := [Cond.methodLink RX5 134 yX5_wanted, Cond.instanceMethod yX5_wanted, Cond.selects RX5 yX5_wanted yX5_wanted, Cond.initialized RX5, Cond.code yX5_wanted cX5_wanted 3 (some .int), Cond.fieldLink RX5 72 "TelegraphDeskModel" "gone" "I", Cond.methodLink RX5 98 yX5_all, Cond.instanceMethod yX5_all, Cond.selects RX5 yX5_all yX5_all, Cond.code yX5_all cX5_all 1 (some .int), Cond.fieldLink RX5 36 "TelegraphDeskModel" "codes" "I", Cond.fieldLink RX5 23 "TelegraphDeskModel" "fewest" "[I", Cond.methodLink RX5 46 yX5_part, Cond.instanceMethod yX5_part, Cond.selects RX5 yX5_part yX5_part, Cond.code yX5_part cX5_part 8 none, Cond.fieldLink RX5 39 "TelegraphDeskModel" "words" "I", Cond.fieldLink RX5 26 "TelegraphDeskModel" "first" "[I", Cond.fieldLink RX5 13 "TelegraphDeskModel" "length" "[I", Cond.fieldLink RX5 9 "TelegraphDeskModel" "key" "[I", Cond.methodLink RX5 42 yX5_keyAt, Cond.instanceMethod yX5_keyAt, Cond.selects RX5 yX5_keyAt yX5_keyAt, Cond.code yX5_keyAt cX5_keyAt 5 (some .int)]
def wsX5_qualityWanted_r2 : List Cond := [Cond.fieldLink RX5 16 "TelegraphDeskModel" "type" "[I", Cond.methodLink RX5 116 yX5_go, Cond.instanceMethod yX5_go, Cond.selects RX5 yX5_go yX5_go, Cond.code yX5_go cX5_go 6 none, Cond.fieldLink RX5 66 "TelegraphDeskModel" "goes" "I", Cond.fieldLink RX5 69 "TelegraphDeskModel" "asked" "I", Cond.fieldLink RX5 75 "TelegraphDeskModel" "garbledFirst" "I", Cond.fieldLink RX5 78 "TelegraphDeskModel" "sent" "I", Cond.methodLink RX5 81 yX5_isGarbled, Cond.static yX5_isGarbled, Cond.code yX5_isGarbled cX5_isGarbled 2 (some .boolean), Cond.methodLink RX5 95 yX5_told, Cond.instanceMethod yX5_told, Cond.selects RX5 yX5_told yX5_told, Cond.code yX5_told cX5_told 2 (some .int), Cond.fieldLink RX5 29 "TelegraphDeskModel" "thrown" "I"]
def wsX5_qualityWanted : List Cond := .code yX5_qualityWanted cX5_qualityWanted 1 (some .int) :: ((wsX5_qualityWanted_r1 ++ wsX5_qualityWanted_r2) ++ wsX50)
def wsX5_useless : List Cond := .code yX5_useless cX5_useless 3 (some .int) :: ([.fieldLink RX5 36 "TelegraphDeskModel" "codes" "I", .fieldLink RX5 23 "TelegraphDeskModel" "fewest" "[I", .methodLink RX5 98 yX5_all, .instanceMethod yX5_all, .selects RX5 yX5_all yX5_all, .initialized RX5, .code yX5_all cX5_all 1 (some .int), .methodLink RX5 46 yX5_part, .instanceMethod yX5_part, .selects RX5 yX5_part yX5_part, .code yX5_part cX5_part 8 none, .fieldLink RX5 39 "TelegraphDeskModel" "words" "I", .fieldLink RX5 26 "TelegraphDeskModel" "first" "[I", .fieldLink RX5 13 "TelegraphDeskModel" "length" "[I", .fieldLink RX5 9 "TelegraphDeskModel" "key" "[I", .methodLink RX5 42 yX5_keyAt, .instanceMethod yX5_keyAt, .selects RX5 yX5_keyAt yX5_keyAt, .code yX5_keyAt cX5_keyAt 5 (some .int), .fieldLink RX5 16 "TelegraphDeskModel" "type" "[I"] ++ wsX50)
def wsX5_uselessCode_r1 : List Cond := [Cond.methodLink RX5 137 yX5_useless, Cond.instanceMethod yX5_useless, Cond.selects RX5 yX5_useless yX5_useless, Cond.initialized RX5, Cond.code yX5_useless cX5_useless 3 (some .int), Cond.fieldLink RX5 36 "TelegraphDeskModel" "codes" "I", Cond.fieldLink RX5 23 "TelegraphDeskModel" "fewest" "[I", Cond.methodLink RX5 98 yX5_all, Cond.instanceMethod yX5_all, Cond.selects RX5 yX5_all yX5_all, Cond.code yX5_all cX5_all 1 (some .int), Cond.methodLink RX5 46 yX5_part, Cond.instanceMethod yX5_part, Cond.selects RX5 yX5_part yX5_part, Cond.code yX5_part cX5_part 8 none, Cond.fieldLink RX5 39 "TelegraphDeskModel" "words" "I", Cond.fieldLink RX5 26 "TelegraphDeskModel" "first" "[I", Cond.fieldLink RX5 13 "TelegraphDeskModel" "length" "[I", Cond.fieldLink RX5 9 "TelegraphDeskModel" "key" "[I", Cond.methodLink RX5 42 yX5_keyAt, Cond.instanceMethod yX5_keyAt, Cond.selects RX5 yX5_keyAt yX5_keyAt, Cond.code yX5_keyAt cX5_keyAt 5 (some .int), Cond.fieldLink RX5 16 "TelegraphDeskModel" "type" "[I"]
def wsX5_uselessCode_r2 : List Cond := [Cond.methodLink RX5 95 yX5_told, Cond.instanceMethod yX5_told, Cond.selects RX5 yX5_told yX5_told, Cond.code yX5_told cX5_told 2 (some .int), Cond.fieldLink RX5 29 "TelegraphDeskModel" "thrown" "I"]
def wsX5_uselessCode : List Cond := .code yX5_uselessCode cX5_uselessCode 1 (some .int) :: ((wsX5_uselessCode_r1 ++ wsX5_uselessCode_r2) ++ wsX50)
def wsX5_bestNew : List Cond := .code yX5_bestNew cX5_bestNew 5 (some .int) :: ([.fieldLink RX5 39 "TelegraphDeskModel" "words" "I", .fieldLink RX5 9 "TelegraphDeskModel" "key" "[I", .fieldLink RX5 36 "TelegraphDeskModel" "codes" "I", .fieldLink RX5 13 "TelegraphDeskModel" "length" "[I", .fieldLink RX5 23 "TelegraphDeskModel" "fewest" "[I", .methodLink RX5 42 yX5_keyAt, .instanceMethod yX5_keyAt, .selects RX5 yX5_keyAt yX5_keyAt, .initialized RX5, .code yX5_keyAt cX5_keyAt 5 (some .int), .fieldLink RX5 16 "TelegraphDeskModel" "type" "[I", .methodLink RX5 46 yX5_part, .instanceMethod yX5_part, .selects RX5 yX5_part yX5_part, .code yX5_part cX5_part 8 none, .fieldLink RX5 26 "TelegraphDeskModel" "first" "[I"] ++ wsX50)
def wsX5_bestNewCode_r1 : List Cond := [Cond.fieldLink RX5 29 "TelegraphDeskModel" "thrown" "I", Cond.methodLink RX5 32 yX5_isIn, Cond.static yX5_isIn, Cond.initialized RX5, Cond.code yX5_isIn cX5_isIn 3 (some .boolean), Cond.methodLink RX5 140 yX5_bestNew, Cond.instanceMethod yX5_bestNew, Cond.selects RX5 yX5_bestNew yX5_bestNew, Cond.code yX5_bestNew cX5_bestNew 5 (some .int), Cond.fieldLink RX5 39 "TelegraphDeskModel" "words" "I", Cond.fieldLink RX5 9 "TelegraphDeskModel" "key" "[I", Cond.fieldLink RX5 36 "TelegraphDeskModel" "codes" "I", Cond.fieldLink RX5 13 "TelegraphDeskModel" "length" "[I", Cond.fieldLink RX5 23 "TelegraphDeskModel" "fewest" "[I", Cond.methodLink RX5 42 yX5_keyAt, Cond.instanceMethod yX5_keyAt, Cond.selects RX5 yX5_keyAt yX5_keyAt, Cond.code yX5_keyAt cX5_keyAt 5 (some .int), Cond.fieldLink RX5 16 "TelegraphDeskModel" "type" "[I", Cond.methodLink RX5 46 yX5_part, Cond.instanceMethod yX5_part, Cond.selects RX5 yX5_part yX5_part, Cond.code yX5_part cX5_part 8 none, Cond.fieldLink RX5 26 "TelegraphDeskModel" "first" "[I"]
def wsX5_bestNewCode_r2 : List Cond := [Cond.methodLink RX5 89 yX5_fail, Cond.instanceMethod yX5_fail, Cond.selects RX5 yX5_fail yX5_fail, Cond.code yX5_fail cX5_fail 2 (some .int)]
def wsX5_bestNewCode : List Cond := .code yX5_bestNewCode cX5_bestNewCode 2 (some .int) :: ((wsX5_bestNewCode_r1 ++ wsX5_bestNewCode_r2) ++ wsX50)
def wsX5_meanLength : List Cond := .code yX5_meanLength cX5_meanLength 3 (some .double) :: ([.fieldLink RX5 29 "TelegraphDeskModel" "thrown" "I", .fieldLink RX5 36 "TelegraphDeskModel" "codes" "I", .fieldLink RX5 13 "TelegraphDeskModel" "length" "[I"] ++ wsX50)
def wsX5_digest_r1 : List Cond := [Cond.fieldLink RX5 29 "TelegraphDeskModel" "thrown" "I", Cond.arrayClass .int, Cond.fieldLink RX5 36 "TelegraphDeskModel" "codes" "I", Cond.fieldLink RX5 39 "TelegraphDeskModel" "words" "I", Cond.fieldLink RX5 78 "TelegraphDeskModel" "sent" "I", Cond.fieldLink RX5 119 "TelegraphDeskModel" "repeats" "I", Cond.fieldLink RX5 122 "TelegraphDeskModel" "lost" "I", Cond.fieldLink RX5 113 "TelegraphDeskModel" "earned" "I", Cond.constantLong RX5 143 (2143), Cond.constantLong RX5 145 (31), Cond.fieldLink RX5 13 "TelegraphDeskModel" "length" "[I", Cond.fieldLink RX5 16 "TelegraphDeskModel" "type" "[I", Cond.fieldLink RX5 26 "TelegraphDeskModel" "first" "[I", Cond.methodLink RX5 98 yX5_all, Cond.instanceMethod yX5_all, Cond.selects RX5 yX5_all yX5_all, Cond.initialized RX5, Cond.code yX5_all cX5_all 1 (some .int), Cond.fieldLink RX5 23 "TelegraphDeskModel" "fewest" "[I", Cond.methodLink RX5 46 yX5_part, Cond.instanceMethod yX5_part, Cond.selects RX5 yX5_part yX5_part, Cond.code yX5_part cX5_part 8 none, Cond.fieldLink RX5 9 "TelegraphDeskModel" "key" "[I"]
def wsX5_digest_r2 : List Cond := [Cond.methodLink RX5 42 yX5_keyAt, Cond.instanceMethod yX5_keyAt, Cond.selects RX5 yX5_keyAt yX5_keyAt, Cond.code yX5_keyAt cX5_keyAt 5 (some .int), Cond.methodLink RX5 59 yX5_count, Cond.instanceMethod yX5_count, Cond.selects RX5 yX5_count yX5_count, Cond.code yX5_count cX5_count 3 (some .int), Cond.methodLink RX5 50 yX5_next, Cond.instanceMethod yX5_next, Cond.selects RX5 yX5_next yX5_next, Cond.code yX5_next cX5_next 2 (some .int), Cond.methodLink RX5 107 yX5_priceNow, Cond.instanceMethod yX5_priceNow, Cond.selects RX5 yX5_priceNow yX5_priceNow, Cond.code yX5_priceNow cX5_priceNow 1 (some .int), Cond.methodLink RX5 63 yX5_price, Cond.instanceMethod yX5_price, Cond.selects RX5 yX5_price yX5_price, Cond.code yX5_price cX5_price 2 (some .int), Cond.methodLink RX5 54 Lib.Math.max.name, Cond.static Lib.Math.max.name, Cond.initialized "java/lang/Math", Cond.code Lib.Math.max.name Lib.Math.max.code 2 (some .int)]
def wsX5_digest_r3 : List Cond := [Cond.methodLink RX5 110 yX5_priceOfWords, Cond.instanceMethod yX5_priceOfWords, Cond.selects RX5 yX5_priceOfWords yX5_priceOfWords, Cond.code yX5_priceOfWords cX5_priceOfWords 3 (some .int), Cond.methodLink RX5 125 yX5_until, Cond.instanceMethod yX5_until, Cond.selects RX5 yX5_until yX5_until, Cond.code yX5_until cX5_until 2 (some .int), Cond.fieldLink RX5 19 "TelegraphDeskModel" "quality" "I", Cond.methodLink RX5 81 yX5_isGarbled, Cond.static yX5_isGarbled, Cond.code yX5_isGarbled cX5_isGarbled 2 (some .boolean), Cond.methodLink RX5 128 yX5_garbled, Cond.instanceMethod yX5_garbled, Cond.selects RX5 yX5_garbled yX5_garbled, Cond.code yX5_garbled cX5_garbled 1 (some .int), Cond.fieldLink RX5 75 "TelegraphDeskModel" "garbledFirst" "I", Cond.methodLink RX5 116 yX5_go, Cond.instanceMethod yX5_go, Cond.selects RX5 yX5_go yX5_go, Cond.code yX5_go cX5_go 6 none, Cond.fieldLink RX5 66 "TelegraphDeskModel" "goes" "I", Cond.fieldLink RX5 69 "TelegraphDeskModel" "asked" "I", Cond.fieldLink RX5 72 "TelegraphDeskModel" "gone" "I"]
def wsX5_digest_r4 : List Cond := [Cond.methodLink RX5 131 yX5_again, Cond.instanceMethod yX5_again, Cond.selects RX5 yX5_again yX5_again, Cond.code yX5_again cX5_again 1 (some .int), Cond.methodLink RX5 134 yX5_wanted, Cond.instanceMethod yX5_wanted, Cond.selects RX5 yX5_wanted yX5_wanted, Cond.code yX5_wanted cX5_wanted 3 (some .int), Cond.methodLink RX5 137 yX5_useless, Cond.instanceMethod yX5_useless, Cond.selects RX5 yX5_useless yX5_useless, Cond.code yX5_useless cX5_useless 3 (some .int), Cond.methodLink RX5 140 yX5_bestNew, Cond.instanceMethod yX5_bestNew, Cond.selects RX5 yX5_bestNew yX5_bestNew, Cond.code yX5_bestNew cX5_bestNew 5 (some .int), Cond.methodLink RX5 104 yX5_uses, Cond.instanceMethod yX5_uses, Cond.selects RX5 yX5_uses yX5_uses, Cond.code yX5_uses cX5_uses 4 (some .int)]
def wsX5_digest : List Cond := .code yX5_digest cX5_digest 8 (some .long) :: ((wsX5_digest_r1 ++ (wsX5_digest_r2 ++ (wsX5_digest_r3 ++ wsX5_digest_r4))) ++ wsX50)
def wsJ9_max_7cf53 : List Cond := .code yJ9_max_7cf53 cJ9_max_7cf53 2 (some .int) :: ([])
def wsJ9_min_7cf53 : List Cond := .code yJ9_min_7cf53 cJ9_min_7cf53 2 (some .int) :: ([])
def wsL_addCode_r1 : List Cond := [Cond.classLink RL 13 "java/lang/IllegalArgumentException", Cond.classLink RL 15 "java/lang/IllegalStateException", Cond.methodLink RL 7 yX4_addCode, Cond.instanceMethod yX4_addCode, Cond.selects RX4 yX4_addCode yX4_addCode, Cond.initialized RX4, Cond.code yX4_addCode cX4_addCode 5 (some .int), Cond.classLink RX4 48 "java/lang/IllegalArgumentException", Cond.initialized "java/lang/IllegalArgumentException", Cond.classLink RX4 66 "java/lang/IllegalStateException", Cond.initialized "java/lang/IllegalStateException", Cond.fieldLink RX4 10 "TelegraphDesk" "book" "LTelegraphDesk$CodeBook;", Cond.methodLink RX4 44 yX4_isType, Cond.static yX4_isType, Cond.code yX4_isType cX4_isType 1 (some .boolean), Cond.methodLink RX4 55 yX4_isTypeOrNone, Cond.static yX4_isTypeOrNone, Cond.code yX4_isTypeOrNone cX4_isTypeOrNone 1 (some .boolean), Cond.methodLink RX4 62 yX0_isFull, Cond.instanceMethod yX0_isFull, Cond.selects RX0 yX0_isFull yX0_isFull, Cond.initialized RX0, Cond.code yX0_isFull cX0_isFull 1 (some .boolean), Cond.fieldLink RX0 18 "TelegraphDesk$CodeBook" "count" "I"]
def wsL_addCode_r2 : List Cond := [Cond.methodLink RX4 71 yX0_holds, Cond.instanceMethod yX0_holds, Cond.selects RX0 yX0_holds yX0_holds, Cond.code yX0_holds cX0_holds 6 (some .boolean), Cond.methodLink RX0 26 yX0_typeIn, Cond.instanceMethod yX0_typeIn, Cond.selects RX0 yX0_typeIn yX0_typeIn, Cond.code yX0_typeIn cX0_typeIn 3 (some .int), Cond.fieldLink RX0 9 "TelegraphDesk$CodeBook" "types" "[I", Cond.methodLink RX0 22 yX0_has, Cond.instanceMethod yX0_has, Cond.selects RX0 yX0_has yX0_has, Cond.code yX0_has cX0_has 2 (some .boolean), Cond.methodLink RX4 77 yX0_append, Cond.instanceMethod yX0_append, Cond.selects RX0 yX0_append yX0_append, Cond.code yX0_append cX0_append 6 none, Cond.fieldLink RX0 15 "TelegraphDesk$CodeBook" "lengths" "[I", Cond.methodLink RX0 30 yX0_isFull, Cond.methodLink RX4 81 yX4_shorten, Cond.instanceMethod yX4_shorten, Cond.selects RX4 yX4_shorten yX4_shorten, Cond.code yX4_shorten cX4_shorten 1 none, Cond.fieldLink RX4 26 "TelegraphDesk" "parting" "LTelegraphDesk$Parting;"]
def wsL_addCode_r3 : List Cond := [Cond.fieldLink RX4 19 "TelegraphDesk" "message" "LTelegraphDesk$Message;", Cond.methodLink RX4 260 yX2_partAsIs, Cond.instanceMethod yX2_partAsIs, Cond.selects RX2 yX2_partAsIs yX2_partAsIs, Cond.initialized RX2, Cond.code yX2_partAsIs cX2_partAsIs 3 none, Cond.methodLink RX2 36 yX2_part, Cond.instanceMethod yX2_part, Cond.selects RX2 yX2_part yX2_part, Cond.code yX2_part cX2_part 9 none, Cond.methodLink RX2 46 Lib.Math.min.name, Cond.static Lib.Math.min.name, Cond.initialized "java/lang/Math", Cond.code Lib.Math.min.name Lib.Math.min.code 2 (some .int), Cond.fieldLink RX2 9 "TelegraphDesk$Parting" "fewest" "[I", Cond.methodLink RX2 40 yX1_size, Cond.instanceMethod yX1_size, Cond.selects RX1 yX1_size yX1_size, Cond.initialized RX1, Cond.code yX1_size cX1_size 1 (some .int), Cond.fieldLink RX1 15 "TelegraphDesk$Message" "count" "I", Cond.methodLink RX2 52 yX2_takeWord, Cond.instanceMethod yX2_takeWord, Cond.selects RX2 yX2_takeWord yX2_takeWord]
def wsL_addCode_r4 : List Cond := [Cond.code yX2_takeWord cX2_takeWord 2 none, Cond.fieldLink RX2 15 "TelegraphDesk$Parting" "lengths" "[I", Cond.fieldLink RX2 18 "TelegraphDesk$Parting" "codes" "[I", Cond.methodLink RX2 56 yX0_size, Cond.instanceMethod yX0_size, Cond.selects RX0 yX0_size yX0_size, Cond.code yX0_size cX0_size 1 (some .int), Cond.methodLink RX2 59 yX1_hasWordsOf, Cond.instanceMethod yX1_hasWordsOf, Cond.selects RX1 yX1_hasWordsOf yX1_hasWordsOf, Cond.code yX1_hasWordsOf cX1_hasWordsOf 6 (some .boolean), Cond.methodLink RX1 30 yX0_wordsIn, Cond.instanceMethod yX0_wordsIn, Cond.selects RX0 yX0_wordsIn yX0_wordsIn, Cond.code yX0_wordsIn cX0_wordsIn 2 (some .int), Cond.methodLink RX1 19 yX1_has, Cond.instanceMethod yX1_has, Cond.selects RX1 yX1_has yX1_has, Cond.code yX1_has cX1_has 2 (some .boolean), Cond.methodLink RX1 23 yX1_typeAt, Cond.instanceMethod yX1_typeAt, Cond.selects RX1 yX1_typeAt yX1_typeAt, Cond.code yX1_typeAt cX1_typeAt 2 (some .int), Cond.fieldLink RX1 9 "TelegraphDesk$Message" "types" "[I"]
def wsL_addCode_r5 : List Cond := [Cond.methodLink RX1 35 yX0_typeIn, Cond.methodLink RX2 63 yX0_wordsIn, Cond.methodLink RX2 66 yX2_takeIfBetter, Cond.instanceMethod yX2_takeIfBetter, Cond.selects RX2 yX2_takeIfBetter yX2_takeIfBetter, Cond.code yX2_takeIfBetter cX2_takeIfBetter 5 none, Cond.methodLink RX2 70 yX1_hasSameWords, Cond.instanceMethod yX1_hasSameWords, Cond.selects RX1 yX1_hasSameWords yX1_hasSameWords, Cond.code yX1_hasSameWords cX1_hasSameWords 5 (some .boolean), Cond.methodLink RX2 74 yX2_listStarts, Cond.instanceMethod yX2_listStarts, Cond.selects RX2 yX2_listStarts yX2_listStarts, Cond.code yX2_listStarts cX2_listStarts 3 none, Cond.fieldLink RX2 24 "TelegraphDesk$Parting" "count" "I", Cond.fieldLink RX2 21 "TelegraphDesk$Parting" "starts" "[I", Cond.methodLink RX4 84 yX0_size]
def wsL_addCode : List Cond := .codeWith yL_addCode cL_addCode 7 (some .int) [(0, 14, 17, 13), (0, 14, 21, 15)] :: ((wsL_addCode_r1 ++ (wsL_addCode_r2 ++ (wsL_addCode_r3 ++ (wsL_addCode_r4 ++ wsL_addCode_r5)))) ++ wsX40 ++ wsX00 ++ wsX20 ++ wsX10 ++ (vx_atS RX4 52 "java/lang/IllegalArgumentException" ["java/lang/RuntimeException", "java/lang/Exception"]).filter goodWord ++ (vx_atS RX4 70 "java/lang/IllegalStateException" ["java/lang/RuntimeException", "java/lang/Exception"]).filter goodWord)
def wsL_dropCode_r1 : List Cond := [Cond.classLink RL 21 "java/lang/IndexOutOfBoundsException", Cond.methodLink RL 17 yX4_dropCode, Cond.instanceMethod yX4_dropCode, Cond.selects RX4 yX4_dropCode yX4_dropCode, Cond.initialized RX4, Cond.code yX4_dropCode cX4_dropCode 3 (some .int), Cond.classLink RX4 91 "java/lang/IndexOutOfBoundsException", Cond.initialized "java/lang/IndexOutOfBoundsException", Cond.fieldLink RX4 10 "TelegraphDesk" "book" "LTelegraphDesk$CodeBook;", Cond.methodLink RX4 88 yX0_has, Cond.instanceMethod yX0_has, Cond.selects RX0 yX0_has yX0_has, Cond.initialized RX0, Cond.code yX0_has cX0_has 2 (some .boolean), Cond.fieldLink RX0 18 "TelegraphDesk$CodeBook" "count" "I", Cond.methodLink RX4 96 yX0_wordsIn, Cond.instanceMethod yX0_wordsIn, Cond.selects RX0 yX0_wordsIn yX0_wordsIn, Cond.code yX0_wordsIn cX0_wordsIn 2 (some .int), Cond.fieldLink RX0 15 "TelegraphDesk$CodeBook" "lengths" "[I", Cond.methodLink RX0 22 yX0_has, Cond.methodLink RX4 100 yX0_remove, Cond.instanceMethod yX0_remove, Cond.selects RX0 yX0_remove yX0_remove]
def wsL_dropCode_r2 : List Cond := [Cond.code yX0_remove cX0_remove 3 none, Cond.fieldLink RX0 9 "TelegraphDesk$CodeBook" "types" "[I", Cond.methodLink RX0 34 arraycopyName, Cond.native arraycopyName, Cond.static arraycopyName, Cond.initialized "java/lang/System", Cond.methodLink RX4 81 yX4_shorten, Cond.instanceMethod yX4_shorten, Cond.selects RX4 yX4_shorten yX4_shorten, Cond.code yX4_shorten cX4_shorten 1 none, Cond.fieldLink RX4 26 "TelegraphDesk" "parting" "LTelegraphDesk$Parting;", Cond.fieldLink RX4 19 "TelegraphDesk" "message" "LTelegraphDesk$Message;", Cond.methodLink RX4 260 yX2_partAsIs, Cond.instanceMethod yX2_partAsIs, Cond.selects RX2 yX2_partAsIs yX2_partAsIs, Cond.initialized RX2, Cond.code yX2_partAsIs cX2_partAsIs 3 none, Cond.methodLink RX2 36 yX2_part, Cond.instanceMethod yX2_part, Cond.selects RX2 yX2_part yX2_part, Cond.code yX2_part cX2_part 9 none, Cond.methodLink RX2 46 Lib.Math.min.name, Cond.static Lib.Math.min.name, Cond.initialized "java/lang/Math"]
def wsL_dropCode_r3 : List Cond := [Cond.code Lib.Math.min.name Lib.Math.min.code 2 (some .int), Cond.fieldLink RX2 9 "TelegraphDesk$Parting" "fewest" "[I", Cond.methodLink RX2 40 yX1_size, Cond.instanceMethod yX1_size, Cond.selects RX1 yX1_size yX1_size, Cond.initialized RX1, Cond.code yX1_size cX1_size 1 (some .int), Cond.fieldLink RX1 15 "TelegraphDesk$Message" "count" "I", Cond.methodLink RX2 52 yX2_takeWord, Cond.instanceMethod yX2_takeWord, Cond.selects RX2 yX2_takeWord yX2_takeWord, Cond.code yX2_takeWord cX2_takeWord 2 none, Cond.fieldLink RX2 15 "TelegraphDesk$Parting" "lengths" "[I", Cond.fieldLink RX2 18 "TelegraphDesk$Parting" "codes" "[I", Cond.methodLink RX2 56 yX0_size, Cond.instanceMethod yX0_size, Cond.selects RX0 yX0_size yX0_size, Cond.code yX0_size cX0_size 1 (some .int), Cond.methodLink RX2 59 yX1_hasWordsOf, Cond.instanceMethod yX1_hasWordsOf, Cond.selects RX1 yX1_hasWordsOf yX1_hasWordsOf, Cond.code yX1_hasWordsOf cX1_hasWordsOf 6 (some .boolean), Cond.methodLink RX1 30 yX0_wordsIn, Cond.methodLink RX1 19 yX1_has]
def wsL_dropCode_r4 : List Cond := [Cond.instanceMethod yX1_has, Cond.selects RX1 yX1_has yX1_has, Cond.code yX1_has cX1_has 2 (some .boolean), Cond.methodLink RX1 23 yX1_typeAt, Cond.instanceMethod yX1_typeAt, Cond.selects RX1 yX1_typeAt yX1_typeAt, Cond.code yX1_typeAt cX1_typeAt 2 (some .int), Cond.fieldLink RX1 9 "TelegraphDesk$Message" "types" "[I", Cond.methodLink RX1 35 yX0_typeIn, Cond.instanceMethod yX0_typeIn, Cond.selects RX0 yX0_typeIn yX0_typeIn, Cond.code yX0_typeIn cX0_typeIn 3 (some .int), Cond.methodLink RX2 63 yX0_wordsIn, Cond.methodLink RX2 66 yX2_takeIfBetter, Cond.instanceMethod yX2_takeIfBetter, Cond.selects RX2 yX2_takeIfBetter yX2_takeIfBetter, Cond.code yX2_takeIfBetter cX2_takeIfBetter 5 none, Cond.methodLink RX2 70 yX1_hasSameWords, Cond.instanceMethod yX1_hasSameWords, Cond.selects RX1 yX1_hasSameWords yX1_hasSameWords, Cond.code yX1_hasSameWords cX1_hasSameWords 5 (some .boolean), Cond.methodLink RX2 74 yX2_listStarts, Cond.instanceMethod yX2_listStarts, Cond.selects RX2 yX2_listStarts yX2_listStarts]
def wsL_dropCode_r5 : List Cond := [Cond.code yX2_listStarts cX2_listStarts 3 none, Cond.fieldLink RX2 24 "TelegraphDesk$Parting" "count" "I", Cond.fieldLink RX2 21 "TelegraphDesk$Parting" "starts" "[I"]
def wsL_dropCode : List Cond := .codeWith yL_dropCode cL_dropCode 4 (some .int) [(0, 9, 12, 21)] :: ((wsL_dropCode_r1 ++ (wsL_dropCode_r2 ++ (wsL_dropCode_r3 ++ (wsL_dropCode_r4 ++ wsL_dropCode_r5)))) ++ wsX40 ++ wsX00 ++ wsX20 ++ wsX10 ++ (vx_atS RX4 95 "java/lang/IndexOutOfBoundsException" ["java/lang/RuntimeException", "java/lang/Exception"]).filter goodWord)
def wsL_lengthOf : List Cond := .codeWith yL_lengthOf cL_lengthOf 4 (some .int) [(0, 9, 12, 21)] :: ([.classLink RL 21 "java/lang/IndexOutOfBoundsException", .methodLink RL 23 yX4_lengthOf, .instanceMethod yX4_lengthOf, .selects RX4 yX4_lengthOf yX4_lengthOf, .initialized RX4, .code yX4_lengthOf cX4_lengthOf 2 (some .int), .classLink RX4 91 "java/lang/IndexOutOfBoundsException", .initialized "java/lang/IndexOutOfBoundsException", .fieldLink RX4 10 "TelegraphDesk" "book" "LTelegraphDesk$CodeBook;", .methodLink RX4 88 yX0_has, .instanceMethod yX0_has, .selects RX0 yX0_has yX0_has, .initialized RX0, .code yX0_has cX0_has 2 (some .boolean), .fieldLink RX0 18 "TelegraphDesk$CodeBook" "count" "I", .methodLink RX4 96 yX0_wordsIn, .instanceMethod yX0_wordsIn, .selects RX0 yX0_wordsIn yX0_wordsIn, .code yX0_wordsIn cX0_wordsIn 2 (some .int), .fieldLink RX0 15 "TelegraphDesk$CodeBook" "lengths" "[I", .methodLink RX0 22 yX0_has] ++ wsX40 ++ wsX00 ++ (vx_atS RX4 95 "java/lang/IndexOutOfBoundsException" ["java/lang/RuntimeException", "java/lang/Exception"]).filter goodWord)
def wsL_write_r1 : List Cond := [Cond.classLink RL 13 "java/lang/IllegalArgumentException", Cond.classLink RL 15 "java/lang/IllegalStateException", Cond.methodLink RL 26 yX4_write, Cond.instanceMethod yX4_write, Cond.selects RX4 yX4_write yX4_write, Cond.initialized RX4, Cond.code yX4_write cX4_write 2 (some .int), Cond.classLink RX4 48 "java/lang/IllegalArgumentException", Cond.initialized "java/lang/IllegalArgumentException", Cond.classLink RX4 66 "java/lang/IllegalStateException", Cond.initialized "java/lang/IllegalStateException", Cond.fieldLink RX4 19 "TelegraphDesk" "message" "LTelegraphDesk$Message;", Cond.methodLink RX4 44 yX4_isType, Cond.static yX4_isType, Cond.code yX4_isType cX4_isType 1 (some .boolean), Cond.methodLink RX4 106 yX1_isFull, Cond.instanceMethod yX1_isFull, Cond.selects RX1 yX1_isFull yX1_isFull, Cond.initialized RX1, Cond.code yX1_isFull cX1_isFull 1 (some .boolean), Cond.fieldLink RX1 15 "TelegraphDesk$Message" "count" "I", Cond.methodLink RX4 109 yX1_append, Cond.instanceMethod yX1_append, Cond.selects RX1 yX1_append yX1_append]
def wsL_write_r2 : List Cond := [Cond.code yX1_append cX1_append 2 none, Cond.fieldLink RX1 9 "TelegraphDesk$Message" "types" "[I", Cond.methodLink RX1 39 yX1_isFull, Cond.methodLink RX4 81 yX4_shorten, Cond.instanceMethod yX4_shorten, Cond.selects RX4 yX4_shorten yX4_shorten, Cond.code yX4_shorten cX4_shorten 1 none, Cond.fieldLink RX4 26 "TelegraphDesk" "parting" "LTelegraphDesk$Parting;", Cond.fieldLink RX4 10 "TelegraphDesk" "book" "LTelegraphDesk$CodeBook;", Cond.methodLink RX4 260 yX2_partAsIs, Cond.instanceMethod yX2_partAsIs, Cond.selects RX2 yX2_partAsIs yX2_partAsIs, Cond.initialized RX2, Cond.code yX2_partAsIs cX2_partAsIs 3 none, Cond.methodLink RX2 36 yX2_part, Cond.instanceMethod yX2_part, Cond.selects RX2 yX2_part yX2_part, Cond.code yX2_part cX2_part 9 none, Cond.methodLink RX2 46 Lib.Math.min.name, Cond.static Lib.Math.min.name, Cond.initialized "java/lang/Math", Cond.code Lib.Math.min.name Lib.Math.min.code 2 (some .int), Cond.fieldLink RX2 9 "TelegraphDesk$Parting" "fewest" "[I", Cond.methodLink RX2 40 yX1_size]
def wsL_write_r3 : List Cond := [Cond.instanceMethod yX1_size, Cond.selects RX1 yX1_size yX1_size, Cond.code yX1_size cX1_size 1 (some .int), Cond.methodLink RX2 52 yX2_takeWord, Cond.instanceMethod yX2_takeWord, Cond.selects RX2 yX2_takeWord yX2_takeWord, Cond.code yX2_takeWord cX2_takeWord 2 none, Cond.fieldLink RX2 15 "TelegraphDesk$Parting" "lengths" "[I", Cond.fieldLink RX2 18 "TelegraphDesk$Parting" "codes" "[I", Cond.methodLink RX2 56 yX0_size, Cond.instanceMethod yX0_size, Cond.selects RX0 yX0_size yX0_size, Cond.initialized RX0, Cond.code yX0_size cX0_size 1 (some .int), Cond.fieldLink RX0 18 "TelegraphDesk$CodeBook" "count" "I", Cond.methodLink RX2 59 yX1_hasWordsOf, Cond.instanceMethod yX1_hasWordsOf, Cond.selects RX1 yX1_hasWordsOf yX1_hasWordsOf, Cond.code yX1_hasWordsOf cX1_hasWordsOf 6 (some .boolean), Cond.methodLink RX1 30 yX0_wordsIn, Cond.instanceMethod yX0_wordsIn, Cond.selects RX0 yX0_wordsIn yX0_wordsIn, Cond.code yX0_wordsIn cX0_wordsIn 2 (some .int), Cond.fieldLink RX0 15 "TelegraphDesk$CodeBook" "lengths" "[I"]
def wsL_write_r4 : List Cond := [Cond.methodLink RX0 22 yX0_has, Cond.instanceMethod yX0_has, Cond.selects RX0 yX0_has yX0_has, Cond.code yX0_has cX0_has 2 (some .boolean), Cond.methodLink RX1 19 yX1_has, Cond.instanceMethod yX1_has, Cond.selects RX1 yX1_has yX1_has, Cond.code yX1_has cX1_has 2 (some .boolean), Cond.methodLink RX1 23 yX1_typeAt, Cond.instanceMethod yX1_typeAt, Cond.selects RX1 yX1_typeAt yX1_typeAt, Cond.code yX1_typeAt cX1_typeAt 2 (some .int), Cond.methodLink RX1 35 yX0_typeIn, Cond.instanceMethod yX0_typeIn, Cond.selects RX0 yX0_typeIn yX0_typeIn, Cond.code yX0_typeIn cX0_typeIn 3 (some .int), Cond.fieldLink RX0 9 "TelegraphDesk$CodeBook" "types" "[I", Cond.methodLink RX2 63 yX0_wordsIn, Cond.methodLink RX2 66 yX2_takeIfBetter, Cond.instanceMethod yX2_takeIfBetter, Cond.selects RX2 yX2_takeIfBetter yX2_takeIfBetter, Cond.code yX2_takeIfBetter cX2_takeIfBetter 5 none, Cond.methodLink RX2 70 yX1_hasSameWords, Cond.instanceMethod yX1_hasSameWords]
def wsL_write_r5 : List Cond := [Cond.selects RX1 yX1_hasSameWords yX1_hasSameWords, Cond.code yX1_hasSameWords cX1_hasSameWords 5 (some .boolean), Cond.methodLink RX2 74 yX2_listStarts, Cond.instanceMethod yX2_listStarts, Cond.selects RX2 yX2_listStarts yX2_listStarts, Cond.code yX2_listStarts cX2_listStarts 3 none, Cond.fieldLink RX2 24 "TelegraphDesk$Parting" "count" "I", Cond.fieldLink RX2 21 "TelegraphDesk$Parting" "starts" "[I", Cond.methodLink RX4 111 yX1_size]
def wsL_write : List Cond := .codeWith yL_write cL_write 4 (some .int) [(0, 9, 12, 13), (0, 9, 15, 15)] :: ((wsL_write_r1 ++ (wsL_write_r2 ++ (wsL_write_r3 ++ (wsL_write_r4 ++ wsL_write_r5)))) ++ wsX40 ++ wsX10 ++ wsX20 ++ wsX00 ++ (vx_atS RX4 52 "java/lang/IllegalArgumentException" ["java/lang/RuntimeException", "java/lang/Exception"]).filter goodWord ++ (vx_atS RX4 70 "java/lang/IllegalStateException" ["java/lang/RuntimeException", "java/lang/Exception"]).filter goodWord)
def wsL_strike_r1 : List Cond := [Cond.classLink RL 15 "java/lang/IllegalStateException", Cond.methodLink RL 29 yX4_strike, Cond.instanceMethod yX4_strike, Cond.selects RX4 yX4_strike yX4_strike, Cond.initialized RX4, Cond.code yX4_strike cX4_strike 2 (some .int), Cond.classLink RX4 66 "java/lang/IllegalStateException", Cond.initialized "java/lang/IllegalStateException", Cond.fieldLink RX4 19 "TelegraphDesk" "message" "LTelegraphDesk$Message;", Cond.methodLink RX4 111 yX1_size, Cond.instanceMethod yX1_size, Cond.selects RX1 yX1_size yX1_size, Cond.initialized RX1, Cond.code yX1_size cX1_size 1 (some .int), Cond.fieldLink RX1 15 "TelegraphDesk$Message" "count" "I", Cond.methodLink RX4 114 yX1_typeAt, Cond.instanceMethod yX1_typeAt, Cond.selects RX1 yX1_typeAt yX1_typeAt, Cond.code yX1_typeAt cX1_typeAt 2 (some .int), Cond.fieldLink RX1 9 "TelegraphDesk$Message" "types" "[I", Cond.methodLink RX1 19 yX1_has, Cond.instanceMethod yX1_has, Cond.selects RX1 yX1_has yX1_has, Cond.code yX1_has cX1_has 2 (some .boolean)]
def wsL_strike_r2 : List Cond := [Cond.methodLink RX4 117 yX1_removeLast, Cond.instanceMethod yX1_removeLast, Cond.selects RX1 yX1_removeLast yX1_removeLast, Cond.code yX1_removeLast cX1_removeLast 1 none, Cond.methodLink RX1 43 Lib.Math.max.name, Cond.static Lib.Math.max.name, Cond.initialized "java/lang/Math", Cond.code Lib.Math.max.name Lib.Math.max.code 2 (some .int), Cond.methodLink RX4 81 yX4_shorten, Cond.instanceMethod yX4_shorten, Cond.selects RX4 yX4_shorten yX4_shorten, Cond.code yX4_shorten cX4_shorten 1 none, Cond.fieldLink RX4 26 "TelegraphDesk" "parting" "LTelegraphDesk$Parting;", Cond.fieldLink RX4 10 "TelegraphDesk" "book" "LTelegraphDesk$CodeBook;", Cond.methodLink RX4 260 yX2_partAsIs, Cond.instanceMethod yX2_partAsIs, Cond.selects RX2 yX2_partAsIs yX2_partAsIs, Cond.initialized RX2, Cond.code yX2_partAsIs cX2_partAsIs 3 none, Cond.methodLink RX2 36 yX2_part, Cond.instanceMethod yX2_part, Cond.selects RX2 yX2_part yX2_part, Cond.code yX2_part cX2_part 9 none, Cond.methodLink RX2 46 Lib.Math.min.name]
def wsL_strike_r3 : List Cond := [Cond.static Lib.Math.min.name, Cond.code Lib.Math.min.name Lib.Math.min.code 2 (some .int), Cond.fieldLink RX2 9 "TelegraphDesk$Parting" "fewest" "[I", Cond.methodLink RX2 40 yX1_size, Cond.methodLink RX2 52 yX2_takeWord, Cond.instanceMethod yX2_takeWord, Cond.selects RX2 yX2_takeWord yX2_takeWord, Cond.code yX2_takeWord cX2_takeWord 2 none, Cond.fieldLink RX2 15 "TelegraphDesk$Parting" "lengths" "[I", Cond.fieldLink RX2 18 "TelegraphDesk$Parting" "codes" "[I", Cond.methodLink RX2 56 yX0_size, Cond.instanceMethod yX0_size, Cond.selects RX0 yX0_size yX0_size, Cond.initialized RX0, Cond.code yX0_size cX0_size 1 (some .int), Cond.fieldLink RX0 18 "TelegraphDesk$CodeBook" "count" "I", Cond.methodLink RX2 59 yX1_hasWordsOf, Cond.instanceMethod yX1_hasWordsOf, Cond.selects RX1 yX1_hasWordsOf yX1_hasWordsOf, Cond.code yX1_hasWordsOf cX1_hasWordsOf 6 (some .boolean), Cond.methodLink RX1 30 yX0_wordsIn, Cond.instanceMethod yX0_wordsIn, Cond.selects RX0 yX0_wordsIn yX0_wordsIn, Cond.code yX0_wordsIn cX0_wordsIn 2 (some .int)]
def wsL_strike_r4 : List Cond := [Cond.fieldLink RX0 15 "TelegraphDesk$CodeBook" "lengths" "[I", Cond.methodLink RX0 22 yX0_has, Cond.instanceMethod yX0_has, Cond.selects RX0 yX0_has yX0_has, Cond.code yX0_has cX0_has 2 (some .boolean), Cond.methodLink RX1 23 yX1_typeAt, Cond.methodLink RX1 35 yX0_typeIn, Cond.instanceMethod yX0_typeIn, Cond.selects RX0 yX0_typeIn yX0_typeIn, Cond.code yX0_typeIn cX0_typeIn 3 (some .int), Cond.fieldLink RX0 9 "TelegraphDesk$CodeBook" "types" "[I", Cond.methodLink RX2 63 yX0_wordsIn, Cond.methodLink RX2 66 yX2_takeIfBetter, Cond.instanceMethod yX2_takeIfBetter, Cond.selects RX2 yX2_takeIfBetter yX2_takeIfBetter, Cond.code yX2_takeIfBetter cX2_takeIfBetter 5 none, Cond.methodLink RX2 70 yX1_hasSameWords, Cond.instanceMethod yX1_hasSameWords, Cond.selects RX1 yX1_hasSameWords yX1_hasSameWords, Cond.code yX1_hasSameWords cX1_hasSameWords 5 (some .boolean), Cond.methodLink RX2 74 yX2_listStarts, Cond.instanceMethod yX2_listStarts, Cond.selects RX2 yX2_listStarts yX2_listStarts, Cond.code yX2_listStarts cX2_listStarts 3 none]
def wsL_strike_r5 : List Cond := [Cond.fieldLink RX2 24 "TelegraphDesk$Parting" "count" "I", Cond.fieldLink RX2 21 "TelegraphDesk$Parting" "starts" "[I"]
def wsL_strike : List Cond := .codeWith yL_strike cL_strike 3 (some .int) [(0, 8, 11, 15)] :: ((wsL_strike_r1 ++ (wsL_strike_r2 ++ (wsL_strike_r3 ++ (wsL_strike_r4 ++ wsL_strike_r5)))) ++ wsX40 ++ wsX10 ++ wsX20 ++ wsX00 ++ (vx_atS RX4 70 "java/lang/IllegalStateException" ["java/lang/RuntimeException", "java/lang/Exception"]).filter goodWord)
def wsL_typeOf : List Cond := .codeWith yL_typeOf cL_typeOf 4 (some .int) [(0, 9, 12, 21)] :: ([.classLink RL 21 "java/lang/IndexOutOfBoundsException", .methodLink RL 33 yX4_typeOf, .instanceMethod yX4_typeOf, .selects RX4 yX4_typeOf yX4_typeOf, .initialized RX4, .code yX4_typeOf cX4_typeOf 2 (some .int), .classLink RX4 91 "java/lang/IndexOutOfBoundsException", .initialized "java/lang/IndexOutOfBoundsException", .fieldLink RX4 19 "TelegraphDesk" "message" "LTelegraphDesk$Message;", .methodLink RX4 123 yX1_has, .instanceMethod yX1_has, .selects RX1 yX1_has yX1_has, .initialized RX1, .code yX1_has cX1_has 2 (some .boolean), .fieldLink RX1 15 "TelegraphDesk$Message" "count" "I", .methodLink RX4 114 yX1_typeAt, .instanceMethod yX1_typeAt, .selects RX1 yX1_typeAt yX1_typeAt, .code yX1_typeAt cX1_typeAt 2 (some .int), .fieldLink RX1 9 "TelegraphDesk$Message" "types" "[I", .methodLink RX1 19 yX1_has] ++ wsX40 ++ wsX10 ++ (vx_atS RX4 95 "java/lang/IndexOutOfBoundsException" ["java/lang/RuntimeException", "java/lang/Exception"]).filter goodWord)
def wsL_codeOf : List Cond := .codeWith yL_codeOf cL_codeOf 4 (some .int) [(0, 9, 12, 21)] :: ([.classLink RL 21 "java/lang/IndexOutOfBoundsException", .methodLink RL 36 yX4_codeOf, .instanceMethod yX4_codeOf, .selects RX4 yX4_codeOf yX4_codeOf, .initialized RX4, .code yX4_codeOf cX4_codeOf 2 (some .int), .classLink RX4 91 "java/lang/IndexOutOfBoundsException", .initialized "java/lang/IndexOutOfBoundsException", .fieldLink RX4 26 "TelegraphDesk" "parting" "LTelegraphDesk$Parting;", .methodLink RX4 127 yX2_has, .instanceMethod yX2_has, .selects RX2 yX2_has yX2_has, .initialized RX2, .code yX2_has cX2_has 2 (some .boolean), .fieldLink RX2 24 "TelegraphDesk$Parting" "count" "I", .methodLink RX4 130 yX2_codeAt, .instanceMethod yX2_codeAt, .selects RX2 yX2_codeAt yX2_codeAt, .code yX2_codeAt cX2_codeAt 2 (some .int), .fieldLink RX2 18 "TelegraphDesk$Parting" "codes" "[I", .fieldLink RX2 21 "TelegraphDesk$Parting" "starts" "[I", .methodLink RX2 28 yX2_has] ++ wsX40 ++ wsX20 ++ (vx_atS RX4 95 "java/lang/IndexOutOfBoundsException" ["java/lang/RuntimeException", "java/lang/Exception"]).filter goodWord)
def wsL_startOf : List Cond := .codeWith yL_startOf cL_startOf 4 (some .int) [(0, 9, 12, 21)] :: ([.classLink RL 21 "java/lang/IndexOutOfBoundsException", .methodLink RL 39 yX4_startOf, .instanceMethod yX4_startOf, .selects RX4 yX4_startOf yX4_startOf, .initialized RX4, .code yX4_startOf cX4_startOf 2 (some .int), .classLink RX4 91 "java/lang/IndexOutOfBoundsException", .initialized "java/lang/IndexOutOfBoundsException", .fieldLink RX4 26 "TelegraphDesk" "parting" "LTelegraphDesk$Parting;", .methodLink RX4 127 yX2_has, .instanceMethod yX2_has, .selects RX2 yX2_has yX2_has, .initialized RX2, .code yX2_has cX2_has 2 (some .boolean), .fieldLink RX2 24 "TelegraphDesk$Parting" "count" "I", .methodLink RX4 133 yX2_startAt, .instanceMethod yX2_startAt, .selects RX2 yX2_startAt yX2_startAt, .code yX2_startAt cX2_startAt 2 (some .int), .fieldLink RX2 21 "TelegraphDesk$Parting" "starts" "[I", .methodLink RX2 28 yX2_has] ++ wsX40 ++ wsX20 ++ (vx_atS RX4 95 "java/lang/IndexOutOfBoundsException" ["java/lang/RuntimeException", "java/lang/Exception"]).filter goodWord)
def wsL_usesOf_r1 : List Cond := [Cond.classLink RL 21 "java/lang/IndexOutOfBoundsException", Cond.methodLink RL 42 yX4_usesOf, Cond.instanceMethod yX4_usesOf, Cond.selects RX4 yX4_usesOf yX4_usesOf, Cond.initialized RX4, Cond.code yX4_usesOf cX4_usesOf 2 (some .int), Cond.classLink RX4 91 "java/lang/IndexOutOfBoundsException", Cond.initialized "java/lang/IndexOutOfBoundsException", Cond.fieldLink RX4 10 "TelegraphDesk" "book" "LTelegraphDesk$CodeBook;", Cond.fieldLink RX4 26 "TelegraphDesk" "parting" "LTelegraphDesk$Parting;", Cond.methodLink RX4 88 yX0_has, Cond.instanceMethod yX0_has, Cond.selects RX0 yX0_has yX0_has, Cond.initialized RX0, Cond.code yX0_has cX0_has 2 (some .boolean), Cond.fieldLink RX0 18 "TelegraphDesk$CodeBook" "count" "I", Cond.methodLink RX4 136 yX2_groupsWith, Cond.instanceMethod yX2_groupsWith, Cond.selects RX2 yX2_groupsWith yX2_groupsWith, Cond.initialized RX2, Cond.code yX2_groupsWith cX2_groupsWith 4 (some .int), Cond.fieldLink RX2 24 "TelegraphDesk$Parting" "count" "I", Cond.methodLink RX2 32 yX2_codeAt, Cond.instanceMethod yX2_codeAt]
def wsL_usesOf_r2 : List Cond := [Cond.selects RX2 yX2_codeAt yX2_codeAt, Cond.code yX2_codeAt cX2_codeAt 2 (some .int), Cond.fieldLink RX2 18 "TelegraphDesk$Parting" "codes" "[I", Cond.fieldLink RX2 21 "TelegraphDesk$Parting" "starts" "[I", Cond.methodLink RX2 28 yX2_has, Cond.instanceMethod yX2_has, Cond.selects RX2 yX2_has yX2_has, Cond.code yX2_has cX2_has 2 (some .boolean)]
def wsL_usesOf : List Cond := .codeWith yL_usesOf cL_usesOf 4 (some .int) [(0, 9, 12, 21)] :: ((wsL_usesOf_r1 ++ wsL_usesOf_r2) ++ wsX40 ++ wsX00 ++ wsX20 ++ (vx_atS RX4 95 "java/lang/IndexOutOfBoundsException" ["java/lang/RuntimeException", "java/lang/Exception"]).filter goodWord)
def wsL_setQuality : List Cond := .codeWith yL_setQuality cL_setQuality 4 (some .int) [(0, 9, 12, 13)] :: ([.classLink RL 13 "java/lang/IllegalArgumentException", .methodLink RL 45 yX4_setQuality, .instanceMethod yX4_setQuality, .selects RX4 yX4_setQuality yX4_setQuality, .initialized RX4, .code yX4_setQuality cX4_setQuality 3 (some .int), .classLink RX4 48 "java/lang/IllegalArgumentException", .initialized "java/lang/IllegalArgumentException", .fieldLink RX4 40 "TelegraphDesk" "quality" "I"] ++ wsX40 ++ (vx_atS RX4 52 "java/lang/IllegalArgumentException" ["java/lang/RuntimeException", "java/lang/Exception"]).filter goodWord)
def wsL_send_r1 : List Cond := [Cond.classLink RL 15 "java/lang/IllegalStateException", Cond.methodLink RL 48 yX4_send, Cond.instanceMethod yX4_send, Cond.selects RX4 yX4_send yX4_send, Cond.initialized RX4, Cond.code yX4_send cX4_send 1 (some .int), Cond.classLink RX4 66 "java/lang/IllegalStateException", Cond.initialized "java/lang/IllegalStateException", Cond.fieldLink RX4 19 "TelegraphDesk" "message" "LTelegraphDesk$Message;", Cond.fieldLink RX4 156 "TelegraphDesk" "earned" "I", Cond.fieldLink RX4 36 "TelegraphDesk" "passage" "LTelegraphDesk$Passage;", Cond.fieldLink RX4 26 "TelegraphDesk" "parting" "LTelegraphDesk$Parting;", Cond.fieldLink RX4 159 "TelegraphDesk" "sentGroups" "I", Cond.fieldLink RX4 40 "TelegraphDesk" "quality" "I", Cond.fieldLink RX4 169 "TelegraphDesk" "repeats" "I", Cond.fieldLink RX4 175 "TelegraphDesk" "lost" "I", Cond.methodLink RX4 111 yX1_size, Cond.instanceMethod yX1_size, Cond.selects RX1 yX1_size yX1_size, Cond.initialized RX1, Cond.code yX1_size cX1_size 1 (some .int), Cond.fieldLink RX1 15 "TelegraphDesk$Message" "count" "I", Cond.methodLink RX4 151 yX4_cost, Cond.instanceMethod yX4_cost]
def wsL_send_r2 : List Cond := [Cond.selects RX4 yX4_cost yX4_cost, Cond.code yX4_cost cX4_cost 1 (some .int), Cond.methodLink RX4 142 yX4_counted, Cond.instanceMethod yX4_counted, Cond.selects RX4 yX4_counted yX4_counted, Cond.code yX4_counted cX4_counted 4 (some .int), Cond.methodLink RX4 126 yX2_size, Cond.instanceMethod yX2_size, Cond.selects RX2 yX2_size yX2_size, Cond.initialized RX2, Cond.code yX2_size cX2_size 1 (some .int), Cond.fieldLink RX2 24 "TelegraphDesk$Parting" "count" "I", Cond.methodLink RX4 130 yX2_codeAt, Cond.instanceMethod yX2_codeAt, Cond.selects RX2 yX2_codeAt yX2_codeAt, Cond.code yX2_codeAt cX2_codeAt 2 (some .int), Cond.fieldLink RX2 18 "TelegraphDesk$Parting" "codes" "[I", Cond.fieldLink RX2 21 "TelegraphDesk$Parting" "starts" "[I", Cond.methodLink RX2 28 yX2_has, Cond.instanceMethod yX2_has, Cond.selects RX2 yX2_has yX2_has, Cond.code yX2_has cX2_has 2 (some .boolean), Cond.methodLink RX4 133 yX2_startAt, Cond.instanceMethod yX2_startAt]
def wsL_send_r3 : List Cond := [Cond.selects RX2 yX2_startAt yX2_startAt, Cond.code yX2_startAt cX2_startAt 2 (some .int), Cond.methodLink RX4 139 yX1_countOf, Cond.instanceMethod yX1_countOf, Cond.selects RX1 yX1_countOf yX1_countOf, Cond.code yX1_countOf cX1_countOf 2 (some .int), Cond.methodLink RX1 23 yX1_typeAt, Cond.instanceMethod yX1_typeAt, Cond.selects RX1 yX1_typeAt yX1_typeAt, Cond.code yX1_typeAt cX1_typeAt 2 (some .int), Cond.fieldLink RX1 9 "TelegraphDesk$Message" "types" "[I", Cond.methodLink RX1 19 yX1_has, Cond.instanceMethod yX1_has, Cond.selects RX1 yX1_has yX1_has, Cond.code yX1_has cX1_has 2 (some .boolean), Cond.methodLink RX4 145 yX4_costOf, Cond.instanceMethod yX4_costOf, Cond.selects RX4 yX4_costOf yX4_costOf, Cond.code yX4_costOf cX4_costOf 2 (some .int), Cond.methodLink RX4 254 Lib.Math.max.name, Cond.static Lib.Math.max.name, Cond.initialized "java/lang/Math", Cond.code Lib.Math.max.name Lib.Math.max.code 2 (some .int), Cond.methodLink RX4 162 yX3_run]
def wsL_send_r4 : List Cond := [Cond.instanceMethod yX3_run, Cond.selects RX3 yX3_run yX3_run, Cond.initialized RX3, Cond.code yX3_run cX3_run 5 none, Cond.fieldLink RX3 9 "TelegraphDesk$Passage" "sent" "I", Cond.fieldLink RX3 15 "TelegraphDesk$Passage" "garbledFirst" "I", Cond.fieldLink RX3 18 "TelegraphDesk$Passage" "asked" "I", Cond.fieldLink RX3 21 "TelegraphDesk$Passage" "gone" "I", Cond.methodLink RX3 24 yX3_pass, Cond.instanceMethod yX3_pass, Cond.selects RX3 yX3_pass yX3_pass, Cond.code yX3_pass cX3_pass 4 none, Cond.methodLink RX3 28 yX3_isNextGarbled, Cond.instanceMethod yX3_isNextGarbled, Cond.selects RX3 yX3_isNextGarbled yX3_isNextGarbled, Cond.code yX3_isNextGarbled cX3_isNextGarbled 2 (some .boolean), Cond.static yX4_isGarbled, Cond.code yX4_isGarbled cX4_isGarbled 2 (some .boolean), Cond.methodLink RX4 166 yX3_sentAtEnd, Cond.instanceMethod yX3_sentAtEnd, Cond.selects RX3 yX3_sentAtEnd yX3_sentAtEnd, Cond.code yX3_sentAtEnd cX3_sentAtEnd 1 (some .int), Cond.methodLink RX4 172 yX3_repeatsAsked, Cond.instanceMethod yX3_repeatsAsked]
def wsL_send_r5 : List Cond := [Cond.selects RX3 yX3_repeatsAsked yX3_repeatsAsked, Cond.code yX3_repeatsAsked cX3_repeatsAsked 1 (some .int), Cond.methodLink RX4 178 yX3_groupsLost, Cond.instanceMethod yX3_groupsLost, Cond.selects RX3 yX3_groupsLost yX3_groupsLost, Cond.code yX3_groupsLost cX3_groupsLost 1 (some .int), Cond.methodLink RX4 120 yX1_removeAll, Cond.instanceMethod yX1_removeAll, Cond.selects RX1 yX1_removeAll yX1_removeAll, Cond.code yX1_removeAll cX1_removeAll 1 none, Cond.methodLink RX4 81 yX4_shorten, Cond.instanceMethod yX4_shorten, Cond.selects RX4 yX4_shorten yX4_shorten, Cond.code yX4_shorten cX4_shorten 1 none, Cond.fieldLink RX4 10 "TelegraphDesk" "book" "LTelegraphDesk$CodeBook;", Cond.methodLink RX4 260 yX2_partAsIs, Cond.instanceMethod yX2_partAsIs, Cond.selects RX2 yX2_partAsIs yX2_partAsIs, Cond.code yX2_partAsIs cX2_partAsIs 3 none, Cond.methodLink RX2 36 yX2_part, Cond.instanceMethod yX2_part, Cond.selects RX2 yX2_part yX2_part, Cond.code yX2_part cX2_part 9 none, Cond.methodLink RX2 46 Lib.Math.min.name]
def wsL_send_r6 : List Cond := [Cond.static Lib.Math.min.name, Cond.code Lib.Math.min.name Lib.Math.min.code 2 (some .int), Cond.fieldLink RX2 9 "TelegraphDesk$Parting" "fewest" "[I", Cond.methodLink RX2 40 yX1_size, Cond.methodLink RX2 52 yX2_takeWord, Cond.instanceMethod yX2_takeWord, Cond.selects RX2 yX2_takeWord yX2_takeWord, Cond.code yX2_takeWord cX2_takeWord 2 none, Cond.fieldLink RX2 15 "TelegraphDesk$Parting" "lengths" "[I", Cond.methodLink RX2 56 yX0_size, Cond.instanceMethod yX0_size, Cond.selects RX0 yX0_size yX0_size, Cond.initialized RX0, Cond.code yX0_size cX0_size 1 (some .int), Cond.fieldLink RX0 18 "TelegraphDesk$CodeBook" "count" "I", Cond.methodLink RX2 59 yX1_hasWordsOf, Cond.instanceMethod yX1_hasWordsOf, Cond.selects RX1 yX1_hasWordsOf yX1_hasWordsOf, Cond.code yX1_hasWordsOf cX1_hasWordsOf 6 (some .boolean), Cond.methodLink RX1 30 yX0_wordsIn, Cond.instanceMethod yX0_wordsIn, Cond.selects RX0 yX0_wordsIn yX0_wordsIn, Cond.code yX0_wordsIn cX0_wordsIn 2 (some .int), Cond.fieldLink RX0 15 "TelegraphDesk$CodeBook" "lengths" "[I"]
def wsL_send_r7 : List Cond := [Cond.methodLink RX0 22 yX0_has, Cond.instanceMethod yX0_has, Cond.selects RX0 yX0_has yX0_has, Cond.code yX0_has cX0_has 2 (some .boolean), Cond.methodLink RX1 35 yX0_typeIn, Cond.instanceMethod yX0_typeIn, Cond.selects RX0 yX0_typeIn yX0_typeIn, Cond.code yX0_typeIn cX0_typeIn 3 (some .int), Cond.fieldLink RX0 9 "TelegraphDesk$CodeBook" "types" "[I", Cond.methodLink RX2 63 yX0_wordsIn, Cond.methodLink RX2 66 yX2_takeIfBetter, Cond.instanceMethod yX2_takeIfBetter, Cond.selects RX2 yX2_takeIfBetter yX2_takeIfBetter, Cond.code yX2_takeIfBetter cX2_takeIfBetter 5 none, Cond.methodLink RX2 70 yX1_hasSameWords, Cond.instanceMethod yX1_hasSameWords, Cond.selects RX1 yX1_hasSameWords yX1_hasSameWords, Cond.code yX1_hasSameWords cX1_hasSameWords 5 (some .boolean), Cond.methodLink RX2 74 yX2_listStarts, Cond.instanceMethod yX2_listStarts, Cond.selects RX2 yX2_listStarts yX2_listStarts, Cond.code yX2_listStarts cX2_listStarts 3 none]
def wsL_send : List Cond := .codeWith yL_send cL_send 3 (some .int) [(0, 8, 11, 15)] :: ((wsL_send_r1 ++ (wsL_send_r2 ++ (wsL_send_r3 ++ (wsL_send_r4 ++ (wsL_send_r5 ++ (wsL_send_r6 ++ wsL_send_r7)))))) ++ wsX40 ++ wsX10 ++ wsX20 ++ wsX30 ++ wsX00 ++ (vx_atS RX4 70 "java/lang/IllegalStateException" ["java/lang/RuntimeException", "java/lang/Exception"]).filter goodWord)
def wsL_bestNewCode_r1 : List Cond := [Cond.classLink RL 13 "java/lang/IllegalArgumentException", Cond.methodLink RL 51 yX4_bestNewCode, Cond.instanceMethod yX4_bestNewCode, Cond.selects RX4 yX4_bestNewCode yX4_bestNewCode, Cond.initialized RX4, Cond.code yX4_bestNewCode cX4_bestNewCode 2 (some .int), Cond.classLink RX4 48 "java/lang/IllegalArgumentException", Cond.initialized "java/lang/IllegalArgumentException", Cond.methodLink RX4 194 yX4_bestStart, Cond.instanceMethod yX4_bestStart, Cond.selects RX4 yX4_bestStart yX4_bestStart, Cond.code yX4_bestStart cX4_bestStart 5 (some .int), Cond.fieldLink RX4 19 "TelegraphDesk" "message" "LTelegraphDesk$Message;", Cond.fieldLink RX4 30 "TelegraphDesk" "supposed" "LTelegraphDesk$Parting;", Cond.fieldLink RX4 10 "TelegraphDesk" "book" "LTelegraphDesk$CodeBook;", Cond.methodLink RX4 111 yX1_size, Cond.instanceMethod yX1_size, Cond.selects RX1 yX1_size yX1_size, Cond.initialized RX1, Cond.code yX1_size cX1_size 1 (some .int), Cond.fieldLink RX1 15 "TelegraphDesk$Message" "count" "I", Cond.methodLink RX4 250 yX2_partWithNew, Cond.instanceMethod yX2_partWithNew, Cond.selects RX2 yX2_partWithNew yX2_partWithNew]
def wsL_bestNewCode_r2 : List Cond := [Cond.initialized RX2, Cond.code yX2_partWithNew cX2_partWithNew 5 none, Cond.methodLink RX2 36 yX2_part, Cond.instanceMethod yX2_part, Cond.selects RX2 yX2_part yX2_part, Cond.code yX2_part cX2_part 9 none, Cond.methodLink RX2 46 Lib.Math.min.name, Cond.static Lib.Math.min.name, Cond.initialized "java/lang/Math", Cond.code Lib.Math.min.name Lib.Math.min.code 2 (some .int), Cond.fieldLink RX2 9 "TelegraphDesk$Parting" "fewest" "[I", Cond.methodLink RX2 40 yX1_size, Cond.methodLink RX2 52 yX2_takeWord, Cond.instanceMethod yX2_takeWord, Cond.selects RX2 yX2_takeWord yX2_takeWord, Cond.code yX2_takeWord cX2_takeWord 2 none, Cond.fieldLink RX2 15 "TelegraphDesk$Parting" "lengths" "[I", Cond.fieldLink RX2 18 "TelegraphDesk$Parting" "codes" "[I", Cond.methodLink RX2 56 yX0_size, Cond.instanceMethod yX0_size, Cond.selects RX0 yX0_size yX0_size, Cond.initialized RX0, Cond.code yX0_size cX0_size 1 (some .int), Cond.fieldLink RX0 18 "TelegraphDesk$CodeBook" "count" "I"]
def wsL_bestNewCode_r3 : List Cond := [Cond.methodLink RX2 59 yX1_hasWordsOf, Cond.instanceMethod yX1_hasWordsOf, Cond.selects RX1 yX1_hasWordsOf yX1_hasWordsOf, Cond.code yX1_hasWordsOf cX1_hasWordsOf 6 (some .boolean), Cond.methodLink RX1 30 yX0_wordsIn, Cond.instanceMethod yX0_wordsIn, Cond.selects RX0 yX0_wordsIn yX0_wordsIn, Cond.code yX0_wordsIn cX0_wordsIn 2 (some .int), Cond.fieldLink RX0 15 "TelegraphDesk$CodeBook" "lengths" "[I", Cond.methodLink RX0 22 yX0_has, Cond.instanceMethod yX0_has, Cond.selects RX0 yX0_has yX0_has, Cond.code yX0_has cX0_has 2 (some .boolean), Cond.methodLink RX1 19 yX1_has, Cond.instanceMethod yX1_has, Cond.selects RX1 yX1_has yX1_has, Cond.code yX1_has cX1_has 2 (some .boolean), Cond.methodLink RX1 23 yX1_typeAt, Cond.instanceMethod yX1_typeAt, Cond.selects RX1 yX1_typeAt yX1_typeAt, Cond.code yX1_typeAt cX1_typeAt 2 (some .int), Cond.fieldLink RX1 9 "TelegraphDesk$Message" "types" "[I", Cond.methodLink RX1 35 yX0_typeIn, Cond.instanceMethod yX0_typeIn]
def wsL_bestNewCode_r4 : List Cond := [Cond.selects RX0 yX0_typeIn yX0_typeIn, Cond.code yX0_typeIn cX0_typeIn 3 (some .int), Cond.fieldLink RX0 9 "TelegraphDesk$CodeBook" "types" "[I", Cond.methodLink RX2 63 yX0_wordsIn, Cond.methodLink RX2 66 yX2_takeIfBetter, Cond.instanceMethod yX2_takeIfBetter, Cond.selects RX2 yX2_takeIfBetter yX2_takeIfBetter, Cond.code yX2_takeIfBetter cX2_takeIfBetter 5 none, Cond.methodLink RX2 70 yX1_hasSameWords, Cond.instanceMethod yX1_hasSameWords, Cond.selects RX1 yX1_hasSameWords yX1_hasSameWords, Cond.code yX1_hasSameWords cX1_hasSameWords 5 (some .boolean), Cond.methodLink RX2 74 yX2_listStarts, Cond.instanceMethod yX2_listStarts, Cond.selects RX2 yX2_listStarts yX2_listStarts, Cond.code yX2_listStarts cX2_listStarts 3 none, Cond.fieldLink RX2 24 "TelegraphDesk$Parting" "count" "I", Cond.fieldLink RX2 21 "TelegraphDesk$Parting" "starts" "[I", Cond.methodLink RX4 126 yX2_size, Cond.instanceMethod yX2_size, Cond.selects RX2 yX2_size yX2_size, Cond.code yX2_size cX2_size 1 (some .int)]
def wsL_bestNewCode : List Cond := .codeWith yL_bestNewCode cL_bestNewCode 4 (some .int) [(0, 9, 12, 13)] :: ((wsL_bestNewCode_r1 ++ (wsL_bestNewCode_r2 ++ (wsL_bestNewCode_r3 ++ wsL_bestNewCode_r4))) ++ wsX40 ++ wsX10 ++ wsX20 ++ wsX00 ++ (vx_atS RX4 52 "java/lang/IllegalArgumentException" ["java/lang/RuntimeException", "java/lang/Exception"]).filter goodWord)
def wsL_law0_r1 : List Cond := [Cond.classLink RL 8 RX4, Cond.instantiable RX4 10, Cond.initialized RX4, Cond.classLink RL 55 RX5, Cond.instantiable RX5 17, Cond.initialized RX5, Cond.arrayClass .long, Cond.methodLink RL 54 yX4_init, Cond.instanceMethod yX4_init, Cond.code yX4_init cX4_init 1 none, Cond.methodLink RX4 1 objectInit, Cond.instanceMethod objectInit, Cond.code objectInit ⟨#[0xb1]⟩ 1 none, Cond.classLink RX4 7 RX0, Cond.instantiable RX0 3, Cond.initialized RX0, Cond.fieldLink RX4 10 "TelegraphDesk" "book" "LTelegraphDesk$CodeBook;", Cond.classLink RX4 16 RX1, Cond.instantiable RX1 2, Cond.initialized RX1, Cond.fieldLink RX4 19 "TelegraphDesk" "message" "LTelegraphDesk$Message;", Cond.classLink RX4 23 RX2, Cond.instantiable RX2 5, Cond.initialized RX2]
def wsL_law0_r2 : List Cond := [Cond.fieldLink RX4 26 "TelegraphDesk" "parting" "LTelegraphDesk$Parting;", Cond.fieldLink RX4 30 "TelegraphDesk" "supposed" "LTelegraphDesk$Parting;", Cond.classLink RX4 33 RX3, Cond.instantiable RX3 4, Cond.initialized RX3, Cond.fieldLink RX4 36 "TelegraphDesk" "passage" "LTelegraphDesk$Passage;", Cond.fieldLink RX4 40 "TelegraphDesk" "quality" "I", Cond.methodLink RX4 9 yX0_init, Cond.instanceMethod yX0_init, Cond.code yX0_init cX0_init 1 none, Cond.methodLink RX0 3 objectInit, Cond.arrayClass .int, Cond.fieldLink RX0 9 "TelegraphDesk$CodeBook" "types" "[I", Cond.fieldLink RX0 15 "TelegraphDesk$CodeBook" "lengths" "[I", Cond.methodLink RX4 18 yX1_init, Cond.instanceMethod yX1_init, Cond.code yX1_init cX1_init 1 none, Cond.methodLink RX1 3 objectInit, Cond.fieldLink RX1 9 "TelegraphDesk$Message" "types" "[I", Cond.methodLink RX4 25 yX2_init, Cond.instanceMethod yX2_init, Cond.code yX2_init cX2_init 1 none, Cond.methodLink RX2 3 objectInit, Cond.fieldLink RX2 9 "TelegraphDesk$Parting" "fewest" "[I"]
def wsL_law0_r3 : List Cond := [Cond.fieldLink RX2 15 "TelegraphDesk$Parting" "lengths" "[I", Cond.fieldLink RX2 18 "TelegraphDesk$Parting" "codes" "[I", Cond.fieldLink RX2 21 "TelegraphDesk$Parting" "starts" "[I", Cond.instanceMethod yX3_init, Cond.code yX3_init cX3_init 1 none, Cond.methodLink RX3 3 objectInit, Cond.methodLink RL 57 yX5_init, Cond.instanceMethod yX5_init, Cond.code yX5_init cX5_init 1 none, Cond.methodLink RX5 1 objectInit, Cond.fieldLink RX5 9 "TelegraphDeskModel" "key" "[I", Cond.fieldLink RX5 13 "TelegraphDeskModel" "length" "[I", Cond.fieldLink RX5 16 "TelegraphDeskModel" "type" "[I", Cond.fieldLink RX5 19 "TelegraphDeskModel" "quality" "I", Cond.fieldLink RX5 23 "TelegraphDeskModel" "fewest" "[I", Cond.fieldLink RX5 26 "TelegraphDeskModel" "first" "[I", Cond.methodLink RL 58 yL_addCode, Cond.static yL_addCode, Cond.initialized RL, Cond.codeWith yL_addCode cL_addCode 7 (some .int) [(0, 14, 17, 13), (0, 14, 21, 15)], Cond.classLink RL 13 "java/lang/IllegalArgumentException", Cond.classLink RL 15 "java/lang/IllegalStateException", Cond.methodLink RL 7 yX4_addCode, Cond.instanceMethod yX4_addCode]
def wsL_law0_r4 : List Cond := [Cond.selects RX4 yX4_addCode yX4_addCode, Cond.code yX4_addCode cX4_addCode 5 (some .int), Cond.classLink RX4 48 "java/lang/IllegalArgumentException", Cond.initialized "java/lang/IllegalArgumentException", Cond.classLink RX4 66 "java/lang/IllegalStateException", Cond.initialized "java/lang/IllegalStateException", Cond.methodLink RX4 44 yX4_isType, Cond.static yX4_isType, Cond.code yX4_isType cX4_isType 1 (some .boolean), Cond.methodLink RX4 55 yX4_isTypeOrNone, Cond.static yX4_isTypeOrNone, Cond.code yX4_isTypeOrNone cX4_isTypeOrNone 1 (some .boolean), Cond.methodLink RX4 62 yX0_isFull, Cond.instanceMethod yX0_isFull, Cond.selects RX0 yX0_isFull yX0_isFull, Cond.code yX0_isFull cX0_isFull 1 (some .boolean), Cond.fieldLink RX0 18 "TelegraphDesk$CodeBook" "count" "I", Cond.methodLink RX4 71 yX0_holds, Cond.instanceMethod yX0_holds, Cond.selects RX0 yX0_holds yX0_holds, Cond.code yX0_holds cX0_holds 6 (some .boolean), Cond.methodLink RX0 26 yX0_typeIn, Cond.instanceMethod yX0_typeIn, Cond.selects RX0 yX0_typeIn yX0_typeIn]
def wsL_law0_r5 : List Cond := [Cond.code yX0_typeIn cX0_typeIn 3 (some .int), Cond.methodLink RX0 22 yX0_has, Cond.instanceMethod yX0_has, Cond.selects RX0 yX0_has yX0_has, Cond.code yX0_has cX0_has 2 (some .boolean), Cond.methodLink RX4 77 yX0_append, Cond.instanceMethod yX0_append, Cond.selects RX0 yX0_append yX0_append, Cond.code yX0_append cX0_append 6 none, Cond.methodLink RX0 30 yX0_isFull, Cond.methodLink RX4 81 yX4_shorten, Cond.instanceMethod yX4_shorten, Cond.selects RX4 yX4_shorten yX4_shorten, Cond.code yX4_shorten cX4_shorten 1 none, Cond.methodLink RX4 260 yX2_partAsIs, Cond.instanceMethod yX2_partAsIs, Cond.selects RX2 yX2_partAsIs yX2_partAsIs, Cond.code yX2_partAsIs cX2_partAsIs 3 none, Cond.methodLink RX2 36 yX2_part, Cond.instanceMethod yX2_part, Cond.selects RX2 yX2_part yX2_part, Cond.code yX2_part cX2_part 9 none, Cond.methodLink RX2 46 Lib.Math.min.name, Cond.static Lib.Math.min.name]
def wsL_law0_r6 : List Cond := [Cond.initialized "java/lang/Math", Cond.code Lib.Math.min.name Lib.Math.min.code 2 (some .int), Cond.methodLink RX2 40 yX1_size, Cond.instanceMethod yX1_size, Cond.selects RX1 yX1_size yX1_size, Cond.code yX1_size cX1_size 1 (some .int), Cond.fieldLink RX1 15 "TelegraphDesk$Message" "count" "I", Cond.methodLink RX2 52 yX2_takeWord, Cond.instanceMethod yX2_takeWord, Cond.selects RX2 yX2_takeWord yX2_takeWord, Cond.code yX2_takeWord cX2_takeWord 2 none, Cond.methodLink RX2 56 yX0_size, Cond.instanceMethod yX0_size, Cond.selects RX0 yX0_size yX0_size, Cond.code yX0_size cX0_size 1 (some .int), Cond.methodLink RX2 59 yX1_hasWordsOf, Cond.instanceMethod yX1_hasWordsOf, Cond.selects RX1 yX1_hasWordsOf yX1_hasWordsOf, Cond.code yX1_hasWordsOf cX1_hasWordsOf 6 (some .boolean), Cond.methodLink RX1 30 yX0_wordsIn, Cond.instanceMethod yX0_wordsIn, Cond.selects RX0 yX0_wordsIn yX0_wordsIn, Cond.code yX0_wordsIn cX0_wordsIn 2 (some .int), Cond.methodLink RX1 19 yX1_has]
def wsL_law0_r7 : List Cond := [Cond.instanceMethod yX1_has, Cond.selects RX1 yX1_has yX1_has, Cond.code yX1_has cX1_has 2 (some .boolean), Cond.methodLink RX1 23 yX1_typeAt, Cond.instanceMethod yX1_typeAt, Cond.selects RX1 yX1_typeAt yX1_typeAt, Cond.code yX1_typeAt cX1_typeAt 2 (some .int), Cond.methodLink RX1 35 yX0_typeIn, Cond.methodLink RX2 63 yX0_wordsIn, Cond.methodLink RX2 66 yX2_takeIfBetter, Cond.instanceMethod yX2_takeIfBetter, Cond.selects RX2 yX2_takeIfBetter yX2_takeIfBetter, Cond.code yX2_takeIfBetter cX2_takeIfBetter 5 none, Cond.methodLink RX2 70 yX1_hasSameWords, Cond.instanceMethod yX1_hasSameWords, Cond.selects RX1 yX1_hasSameWords yX1_hasSameWords, Cond.code yX1_hasSameWords cX1_hasSameWords 5 (some .boolean), Cond.methodLink RX2 74 yX2_listStarts, Cond.instanceMethod yX2_listStarts, Cond.selects RX2 yX2_listStarts yX2_listStarts, Cond.code yX2_listStarts cX2_listStarts 3 none, Cond.fieldLink RX2 24 "TelegraphDesk$Parting" "count" "I", Cond.methodLink RX4 84 yX0_size, Cond.methodLink RL 63 yX5_addCode]
def wsL_law0_r8 : List Cond := [Cond.instanceMethod yX5_addCode, Cond.selects RX5 yX5_addCode yX5_addCode, Cond.code yX5_addCode cX5_addCode 8 (some .int), Cond.fieldLink RX5 29 "TelegraphDeskModel" "thrown" "I", Cond.fieldLink RX5 36 "TelegraphDeskModel" "codes" "I", Cond.methodLink RX5 85 yX5_isType, Cond.static yX5_isType, Cond.code yX5_isType cX5_isType 1 (some .boolean), Cond.methodLink RX5 32 yX5_isIn, Cond.static yX5_isIn, Cond.code yX5_isIn cX5_isIn 3 (some .boolean), Cond.methodLink RX5 89 yX5_fail, Cond.instanceMethod yX5_fail, Cond.selects RX5 yX5_fail yX5_fail, Cond.code yX5_fail cX5_fail 2 (some .int), Cond.methodLink RL 64 yX5_thrown, Cond.instanceMethod yX5_thrown, Cond.selects RX5 yX5_thrown yX5_thrown, Cond.code yX5_thrown cX5_thrown 1 (some .int), Cond.methodLink RL 67 yL_dropCode, Cond.static yL_dropCode, Cond.codeWith yL_dropCode cL_dropCode 4 (some .int) [(0, 9, 12, 21)], Cond.classLink RL 21 "java/lang/IndexOutOfBoundsException", Cond.methodLink RL 17 yX4_dropCode]
def wsL_law0_r9 : List Cond := [Cond.instanceMethod yX4_dropCode, Cond.selects RX4 yX4_dropCode yX4_dropCode, Cond.code yX4_dropCode cX4_dropCode 3 (some .int), Cond.classLink RX4 91 "java/lang/IndexOutOfBoundsException", Cond.initialized "java/lang/IndexOutOfBoundsException", Cond.methodLink RX4 88 yX0_has, Cond.methodLink RX4 96 yX0_wordsIn, Cond.methodLink RX4 100 yX0_remove, Cond.instanceMethod yX0_remove, Cond.selects RX0 yX0_remove yX0_remove, Cond.code yX0_remove cX0_remove 3 none, Cond.methodLink RX0 34 arraycopyName, Cond.native arraycopyName, Cond.static arraycopyName, Cond.initialized "java/lang/System", Cond.methodLink RL 70 yX5_dropCode, Cond.instanceMethod yX5_dropCode, Cond.selects RX5 yX5_dropCode yX5_dropCode, Cond.code yX5_dropCode cX5_dropCode 4 (some .int), Cond.methodLink RX5 92 yX5_isCode, Cond.instanceMethod yX5_isCode, Cond.selects RX5 yX5_isCode yX5_isCode, Cond.code yX5_isCode cX5_isCode 2 (some .boolean), Cond.methodLink RL 71 yX4_codes]
def wsL_law0_r10 : List Cond := [Cond.instanceMethod yX4_codes, Cond.selects RX4 yX4_codes yX4_codes, Cond.code yX4_codes cX4_codes 1 (some .int), Cond.methodLink RL 74 yX5_codes, Cond.instanceMethod yX5_codes, Cond.selects RX5 yX5_codes yX5_codes, Cond.code yX5_codes cX5_codes 1 (some .int), Cond.methodLink RX5 95 yX5_told, Cond.instanceMethod yX5_told, Cond.selects RX5 yX5_told yX5_told, Cond.code yX5_told cX5_told 2 (some .int), Cond.methodLink RL 75 yL_lengthOf, Cond.static yL_lengthOf, Cond.codeWith yL_lengthOf cL_lengthOf 4 (some .int) [(0, 9, 12, 21)], Cond.methodLink RL 23 yX4_lengthOf, Cond.instanceMethod yX4_lengthOf, Cond.selects RX4 yX4_lengthOf yX4_lengthOf, Cond.code yX4_lengthOf cX4_lengthOf 2 (some .int), Cond.methodLink RL 77 yX5_lengthOf, Cond.instanceMethod yX5_lengthOf, Cond.selects RX5 yX5_lengthOf yX5_lengthOf, Cond.code yX5_lengthOf cX5_lengthOf 2 (some .int), Cond.methodLink RL 78 yL_write, Cond.static yL_write]
def wsL_law0_r11 : List Cond := [Cond.codeWith yL_write cL_write 4 (some .int) [(0, 9, 12, 13), (0, 9, 15, 15)], Cond.methodLink RL 26 yX4_write, Cond.instanceMethod yX4_write, Cond.selects RX4 yX4_write yX4_write, Cond.code yX4_write cX4_write 2 (some .int), Cond.methodLink RX4 106 yX1_isFull, Cond.instanceMethod yX1_isFull, Cond.selects RX1 yX1_isFull yX1_isFull, Cond.code yX1_isFull cX1_isFull 1 (some .boolean), Cond.methodLink RX4 109 yX1_append, Cond.instanceMethod yX1_append, Cond.selects RX1 yX1_append yX1_append, Cond.code yX1_append cX1_append 2 none, Cond.methodLink RX1 39 yX1_isFull, Cond.methodLink RX4 111 yX1_size, Cond.methodLink RL 80 yX5_write, Cond.instanceMethod yX5_write, Cond.selects RX5 yX5_write yX5_write, Cond.code yX5_write cX5_write 2 (some .int), Cond.fieldLink RX5 39 "TelegraphDeskModel" "words" "I", Cond.methodLink RL 81 yL_strike, Cond.static yL_strike, Cond.codeWith yL_strike cL_strike 3 (some .int) [(0, 8, 11, 15)], Cond.methodLink RL 29 yX4_strike]
def wsL_law0_r12 : List Cond := [Cond.instanceMethod yX4_strike, Cond.selects RX4 yX4_strike yX4_strike, Cond.code yX4_strike cX4_strike 2 (some .int), Cond.methodLink RX4 114 yX1_typeAt, Cond.methodLink RX4 117 yX1_removeLast, Cond.instanceMethod yX1_removeLast, Cond.selects RX1 yX1_removeLast yX1_removeLast, Cond.code yX1_removeLast cX1_removeLast 1 none, Cond.methodLink RX1 43 Lib.Math.max.name, Cond.static Lib.Math.max.name, Cond.code Lib.Math.max.name Lib.Math.max.code 2 (some .int), Cond.methodLink RL 84 yX5_strike, Cond.instanceMethod yX5_strike, Cond.selects RX5 yX5_strike yX5_strike, Cond.code yX5_strike cX5_strike 1 (some .int), Cond.methodLink RL 85 yX4_clear, Cond.instanceMethod yX4_clear, Cond.selects RX4 yX4_clear yX4_clear, Cond.code yX4_clear cX4_clear 2 (some .int), Cond.methodLink RX4 120 yX1_removeAll, Cond.instanceMethod yX1_removeAll, Cond.selects RX1 yX1_removeAll yX1_removeAll, Cond.code yX1_removeAll cX1_removeAll 1 none, Cond.methodLink RL 88 yX5_clear]
def wsL_law0_r13 : List Cond := [Cond.instanceMethod yX5_clear, Cond.selects RX5 yX5_clear yX5_clear, Cond.code yX5_clear cX5_clear 2 (some .int), Cond.methodLink RL 89 yX4_words, Cond.instanceMethod yX4_words, Cond.selects RX4 yX4_words yX4_words, Cond.code yX4_words cX4_words 1 (some .int), Cond.methodLink RL 92 yX5_words, Cond.instanceMethod yX5_words, Cond.selects RX5 yX5_words yX5_words, Cond.code yX5_words cX5_words 1 (some .int), Cond.methodLink RL 93 yL_typeOf, Cond.static yL_typeOf, Cond.codeWith yL_typeOf cL_typeOf 4 (some .int) [(0, 9, 12, 21)], Cond.methodLink RL 33 yX4_typeOf, Cond.instanceMethod yX4_typeOf, Cond.selects RX4 yX4_typeOf yX4_typeOf, Cond.code yX4_typeOf cX4_typeOf 2 (some .int), Cond.methodLink RX4 123 yX1_has, Cond.methodLink RL 95 yX5_typeOf, Cond.instanceMethod yX5_typeOf, Cond.selects RX5 yX5_typeOf yX5_typeOf, Cond.code yX5_typeOf cX5_typeOf 2 (some .int), Cond.methodLink RL 96 yX4_groups]
def wsL_law0_r14 : List Cond := [Cond.instanceMethod yX4_groups, Cond.selects RX4 yX4_groups yX4_groups, Cond.code yX4_groups cX4_groups 1 (some .int), Cond.methodLink RX4 126 yX2_size, Cond.instanceMethod yX2_size, Cond.selects RX2 yX2_size yX2_size, Cond.code yX2_size cX2_size 1 (some .int), Cond.methodLink RL 99 yX5_groups, Cond.instanceMethod yX5_groups, Cond.selects RX5 yX5_groups yX5_groups, Cond.code yX5_groups cX5_groups 1 (some .int), Cond.methodLink RX5 98 yX5_all, Cond.instanceMethod yX5_all, Cond.selects RX5 yX5_all yX5_all, Cond.code yX5_all cX5_all 1 (some .int), Cond.methodLink RX5 46 yX5_part, Cond.instanceMethod yX5_part, Cond.selects RX5 yX5_part yX5_part, Cond.code yX5_part cX5_part 8 none, Cond.methodLink RX5 42 yX5_keyAt, Cond.instanceMethod yX5_keyAt, Cond.selects RX5 yX5_keyAt yX5_keyAt, Cond.code yX5_keyAt cX5_keyAt 5 (some .int), Cond.methodLink RL 100 yL_codeOf]
def wsL_law0_r15 : List Cond := [Cond.static yL_codeOf, Cond.codeWith yL_codeOf cL_codeOf 4 (some .int) [(0, 9, 12, 21)], Cond.methodLink RL 36 yX4_codeOf, Cond.instanceMethod yX4_codeOf, Cond.selects RX4 yX4_codeOf yX4_codeOf, Cond.code yX4_codeOf cX4_codeOf 2 (some .int), Cond.methodLink RX4 127 yX2_has, Cond.instanceMethod yX2_has, Cond.selects RX2 yX2_has yX2_has, Cond.code yX2_has cX2_has 2 (some .boolean), Cond.methodLink RX4 130 yX2_codeAt, Cond.instanceMethod yX2_codeAt, Cond.selects RX2 yX2_codeAt yX2_codeAt, Cond.code yX2_codeAt cX2_codeAt 2 (some .int), Cond.methodLink RX2 28 yX2_has, Cond.methodLink RL 102 yX5_codeOf, Cond.instanceMethod yX5_codeOf, Cond.selects RX5 yX5_codeOf yX5_codeOf, Cond.code yX5_codeOf cX5_codeOf 2 (some .int), Cond.methodLink RX5 101 yX5_start, Cond.instanceMethod yX5_start, Cond.selects RX5 yX5_start yX5_start, Cond.code yX5_start cX5_start 4 (some .int), Cond.methodLink RX5 50 yX5_next]
def wsL_law0_r16 : List Cond := [Cond.instanceMethod yX5_next, Cond.selects RX5 yX5_next yX5_next, Cond.code yX5_next cX5_next 2 (some .int), Cond.methodLink RL 103 yL_startOf, Cond.static yL_startOf, Cond.codeWith yL_startOf cL_startOf 4 (some .int) [(0, 9, 12, 21)], Cond.methodLink RL 39 yX4_startOf, Cond.instanceMethod yX4_startOf, Cond.selects RX4 yX4_startOf yX4_startOf, Cond.code yX4_startOf cX4_startOf 2 (some .int), Cond.methodLink RX4 133 yX2_startAt, Cond.instanceMethod yX2_startAt, Cond.selects RX2 yX2_startAt yX2_startAt, Cond.code yX2_startAt cX2_startAt 2 (some .int), Cond.methodLink RL 105 yX5_startOf, Cond.instanceMethod yX5_startOf, Cond.selects RX5 yX5_startOf yX5_startOf, Cond.code yX5_startOf cX5_startOf 2 (some .int), Cond.methodLink RL 106 yL_usesOf, Cond.static yL_usesOf, Cond.codeWith yL_usesOf cL_usesOf 4 (some .int) [(0, 9, 12, 21)], Cond.methodLink RL 42 yX4_usesOf, Cond.instanceMethod yX4_usesOf, Cond.selects RX4 yX4_usesOf yX4_usesOf]
def wsL_law0_r17 : List Cond := [Cond.code yX4_usesOf cX4_usesOf 2 (some .int), Cond.methodLink RX4 136 yX2_groupsWith, Cond.instanceMethod yX2_groupsWith, Cond.selects RX2 yX2_groupsWith yX2_groupsWith, Cond.code yX2_groupsWith cX2_groupsWith 4 (some .int), Cond.methodLink RX2 32 yX2_codeAt, Cond.methodLink RL 108 yX5_usesOf, Cond.instanceMethod yX5_usesOf, Cond.selects RX5 yX5_usesOf yX5_usesOf, Cond.code yX5_usesOf cX5_usesOf 2 (some .int), Cond.methodLink RX5 104 yX5_uses, Cond.instanceMethod yX5_uses, Cond.selects RX5 yX5_uses yX5_uses, Cond.code yX5_uses cX5_uses 4 (some .int), Cond.methodLink RL 109 yX4_counted, Cond.instanceMethod yX4_counted, Cond.selects RX4 yX4_counted yX4_counted, Cond.code yX4_counted cX4_counted 4 (some .int), Cond.methodLink RX4 139 yX1_countOf, Cond.instanceMethod yX1_countOf, Cond.selects RX1 yX1_countOf yX1_countOf, Cond.code yX1_countOf cX1_countOf 2 (some .int), Cond.methodLink RL 112 yX5_counted, Cond.instanceMethod yX5_counted]
def wsL_law0_r18 : List Cond := [Cond.selects RX5 yX5_counted yX5_counted, Cond.code yX5_counted cX5_counted 1 (some .int), Cond.methodLink RX5 59 yX5_count, Cond.instanceMethod yX5_count, Cond.selects RX5 yX5_count yX5_count, Cond.code yX5_count cX5_count 3 (some .int), Cond.methodLink RL 113 yX4_cost, Cond.instanceMethod yX4_cost, Cond.selects RX4 yX4_cost yX4_cost, Cond.code yX4_cost cX4_cost 1 (some .int), Cond.methodLink RX4 142 yX4_counted, Cond.methodLink RX4 145 yX4_costOf, Cond.instanceMethod yX4_costOf, Cond.selects RX4 yX4_costOf yX4_costOf, Cond.code yX4_costOf cX4_costOf 2 (some .int), Cond.methodLink RX4 254 Lib.Math.max.name, Cond.methodLink RL 116 yX5_cost, Cond.instanceMethod yX5_cost, Cond.selects RX5 yX5_cost yX5_cost, Cond.code yX5_cost cX5_cost 1 (some .int), Cond.methodLink RX5 107 yX5_priceNow, Cond.instanceMethod yX5_priceNow, Cond.selects RX5 yX5_priceNow yX5_priceNow, Cond.code yX5_priceNow cX5_priceNow 1 (some .int)]
def wsL_law0_r19 : List Cond := [Cond.methodLink RX5 63 yX5_price, Cond.instanceMethod yX5_price, Cond.selects RX5 yX5_price yX5_price, Cond.code yX5_price cX5_price 2 (some .int), Cond.methodLink RX5 54 Lib.Math.max.name, Cond.methodLink RL 117 yX4_saved, Cond.instanceMethod yX4_saved, Cond.selects RX4 yX4_saved yX4_saved, Cond.code yX4_saved cX4_saved 1 (some .int), Cond.methodLink RX4 148 yX1_countOfAll, Cond.instanceMethod yX1_countOfAll, Cond.selects RX1 yX1_countOfAll yX1_countOfAll, Cond.code yX1_countOfAll cX1_countOfAll 3 (some .int), Cond.methodLink RX1 27 yX1_countOf, Cond.methodLink RX4 151 yX4_cost, Cond.methodLink RL 120 yX5_saved, Cond.instanceMethod yX5_saved, Cond.selects RX5 yX5_saved yX5_saved, Cond.code yX5_saved cX5_saved 1 (some .int), Cond.methodLink RX5 110 yX5_priceOfWords, Cond.instanceMethod yX5_priceOfWords, Cond.selects RX5 yX5_priceOfWords yX5_priceOfWords, Cond.code yX5_priceOfWords cX5_priceOfWords 3 (some .int), Cond.methodLink RL 121 yL_setQuality]
def wsL_law0_r20 : List Cond := [Cond.static yL_setQuality, Cond.codeWith yL_setQuality cL_setQuality 4 (some .int) [(0, 9, 12, 13)], Cond.methodLink RL 45 yX4_setQuality, Cond.instanceMethod yX4_setQuality, Cond.selects RX4 yX4_setQuality yX4_setQuality, Cond.code yX4_setQuality cX4_setQuality 3 (some .int), Cond.methodLink RL 123 yX5_setQuality, Cond.instanceMethod yX5_setQuality, Cond.selects RX5 yX5_setQuality yX5_setQuality, Cond.code yX5_setQuality cX5_setQuality 3 (some .int), Cond.methodLink RL 124 yL_send, Cond.static yL_send, Cond.codeWith yL_send cL_send 3 (some .int) [(0, 8, 11, 15)], Cond.methodLink RL 48 yX4_send, Cond.instanceMethod yX4_send, Cond.selects RX4 yX4_send yX4_send, Cond.code yX4_send cX4_send 1 (some .int), Cond.fieldLink RX4 156 "TelegraphDesk" "earned" "I", Cond.fieldLink RX4 159 "TelegraphDesk" "sentGroups" "I", Cond.fieldLink RX4 169 "TelegraphDesk" "repeats" "I", Cond.fieldLink RX4 175 "TelegraphDesk" "lost" "I", Cond.methodLink RX4 162 yX3_run, Cond.instanceMethod yX3_run, Cond.selects RX3 yX3_run yX3_run]
def wsL_law0_r21 : List Cond := [Cond.code yX3_run cX3_run 5 none, Cond.fieldLink RX3 9 "TelegraphDesk$Passage" "sent" "I", Cond.fieldLink RX3 15 "TelegraphDesk$Passage" "garbledFirst" "I", Cond.fieldLink RX3 18 "TelegraphDesk$Passage" "asked" "I", Cond.fieldLink RX3 21 "TelegraphDesk$Passage" "gone" "I", Cond.methodLink RX3 24 yX3_pass, Cond.instanceMethod yX3_pass, Cond.selects RX3 yX3_pass yX3_pass, Cond.code yX3_pass cX3_pass 4 none, Cond.methodLink RX3 28 yX3_isNextGarbled, Cond.instanceMethod yX3_isNextGarbled, Cond.selects RX3 yX3_isNextGarbled yX3_isNextGarbled, Cond.code yX3_isNextGarbled cX3_isNextGarbled 2 (some .boolean), Cond.static yX4_isGarbled, Cond.code yX4_isGarbled cX4_isGarbled 2 (some .boolean), Cond.methodLink RX4 166 yX3_sentAtEnd, Cond.instanceMethod yX3_sentAtEnd, Cond.selects RX3 yX3_sentAtEnd yX3_sentAtEnd, Cond.code yX3_sentAtEnd cX3_sentAtEnd 1 (some .int), Cond.methodLink RX4 172 yX3_repeatsAsked, Cond.instanceMethod yX3_repeatsAsked, Cond.selects RX3 yX3_repeatsAsked yX3_repeatsAsked, Cond.code yX3_repeatsAsked cX3_repeatsAsked 1 (some .int), Cond.methodLink RX4 178 yX3_groupsLost]
def wsL_law0_r22 : List Cond := [Cond.instanceMethod yX3_groupsLost, Cond.selects RX3 yX3_groupsLost yX3_groupsLost, Cond.code yX3_groupsLost cX3_groupsLost 1 (some .int), Cond.methodLink RL 126 yX5_send, Cond.instanceMethod yX5_send, Cond.selects RX5 yX5_send yX5_send, Cond.code yX5_send cX5_send 1 (some .int), Cond.fieldLink RX5 113 "TelegraphDeskModel" "earned" "I", Cond.fieldLink RX5 78 "TelegraphDeskModel" "sent" "I", Cond.fieldLink RX5 66 "TelegraphDeskModel" "goes" "I", Cond.fieldLink RX5 119 "TelegraphDeskModel" "repeats" "I", Cond.fieldLink RX5 69 "TelegraphDeskModel" "asked" "I", Cond.fieldLink RX5 122 "TelegraphDeskModel" "lost" "I", Cond.fieldLink RX5 72 "TelegraphDeskModel" "gone" "I", Cond.methodLink RX5 116 yX5_go, Cond.instanceMethod yX5_go, Cond.selects RX5 yX5_go yX5_go, Cond.code yX5_go cX5_go 6 none, Cond.fieldLink RX5 75 "TelegraphDeskModel" "garbledFirst" "I", Cond.methodLink RX5 81 yX5_isGarbled, Cond.static yX5_isGarbled, Cond.code yX5_isGarbled cX5_isGarbled 2 (some .boolean), Cond.methodLink RL 127 yX4_sentGroups, Cond.instanceMethod yX4_sentGroups]
def wsL_law0_r23 : List Cond := [Cond.selects RX4 yX4_sentGroups yX4_sentGroups, Cond.code yX4_sentGroups cX4_sentGroups 1 (some .int), Cond.methodLink RL 130 yX5_sentGroups, Cond.instanceMethod yX5_sentGroups, Cond.selects RX5 yX5_sentGroups yX5_sentGroups, Cond.code yX5_sentGroups cX5_sentGroups 1 (some .int), Cond.methodLink RL 131 yX4_repeats, Cond.instanceMethod yX4_repeats, Cond.selects RX4 yX4_repeats yX4_repeats, Cond.code yX4_repeats cX4_repeats 1 (some .int), Cond.methodLink RL 134 yX5_repeats, Cond.instanceMethod yX5_repeats, Cond.selects RX5 yX5_repeats yX5_repeats, Cond.code yX5_repeats cX5_repeats 1 (some .int), Cond.methodLink RL 135 yX4_lost, Cond.instanceMethod yX4_lost, Cond.selects RX4 yX4_lost yX4_lost, Cond.code yX4_lost cX4_lost 1 (some .int), Cond.methodLink RL 138 yX5_lost, Cond.instanceMethod yX5_lost, Cond.selects RX5 yX5_lost yX5_lost, Cond.code yX5_lost cX5_lost 1 (some .int), Cond.methodLink RL 139 yX4_earned, Cond.instanceMethod yX4_earned]
def wsL_law0_r24 : List Cond := [Cond.selects RX4 yX4_earned yX4_earned, Cond.code yX4_earned cX4_earned 1 (some .int), Cond.methodLink RL 142 yX5_earned, Cond.instanceMethod yX5_earned, Cond.selects RX5 yX5_earned yX5_earned, Cond.code yX5_earned cX5_earned 1 (some .int), Cond.methodLink RL 143 yX4_untilGarbled, Cond.instanceMethod yX4_untilGarbled, Cond.selects RX4 yX4_untilGarbled yX4_untilGarbled, Cond.code yX4_untilGarbled cX4_untilGarbled 2 (some .int), Cond.methodLink RX4 181 yX4_isGarbled, Cond.methodLink RL 146 yX5_untilGarbled, Cond.instanceMethod yX5_untilGarbled, Cond.selects RX5 yX5_untilGarbled yX5_untilGarbled, Cond.code yX5_untilGarbled cX5_untilGarbled 1 (some .int), Cond.methodLink RX5 125 yX5_until, Cond.instanceMethod yX5_until, Cond.selects RX5 yX5_until yX5_until, Cond.code yX5_until cX5_until 2 (some .int), Cond.methodLink RL 147 yX4_wouldBeGarbled, Cond.instanceMethod yX4_wouldBeGarbled, Cond.selects RX4 yX4_wouldBeGarbled yX4_wouldBeGarbled, Cond.code yX4_wouldBeGarbled cX4_wouldBeGarbled 1 (some .int), Cond.methodLink RX4 185 yX3_garbledAtFirst]
def wsL_law0_r25 : List Cond := [Cond.instanceMethod yX3_garbledAtFirst, Cond.selects RX3 yX3_garbledAtFirst yX3_garbledAtFirst, Cond.code yX3_garbledAtFirst cX3_garbledAtFirst 1 (some .int), Cond.methodLink RL 150 yX5_wouldBeGarbled, Cond.instanceMethod yX5_wouldBeGarbled, Cond.selects RX5 yX5_wouldBeGarbled yX5_wouldBeGarbled, Cond.code yX5_wouldBeGarbled cX5_wouldBeGarbled 1 (some .int), Cond.methodLink RX5 128 yX5_garbled, Cond.instanceMethod yX5_garbled, Cond.selects RX5 yX5_garbled yX5_garbled, Cond.code yX5_garbled cX5_garbled 1 (some .int), Cond.methodLink RL 151 yX4_repeatsIfSent, Cond.instanceMethod yX4_repeatsIfSent, Cond.selects RX4 yX4_repeatsIfSent yX4_repeatsIfSent, Cond.code yX4_repeatsIfSent cX4_repeatsIfSent 1 (some .int), Cond.methodLink RL 154 yX5_repeatsIfSent, Cond.instanceMethod yX5_repeatsIfSent, Cond.selects RX5 yX5_repeatsIfSent yX5_repeatsIfSent, Cond.code yX5_repeatsIfSent cX5_repeatsIfSent 1 (some .int), Cond.methodLink RX5 131 yX5_again, Cond.instanceMethod yX5_again, Cond.selects RX5 yX5_again yX5_again, Cond.code yX5_again cX5_again 1 (some .int), Cond.methodLink RL 155 yX4_qualityWanted]
def wsL_law0_r26 : List Cond := [Cond.instanceMethod yX4_qualityWanted, Cond.selects RX4 yX4_qualityWanted yX4_qualityWanted, Cond.code yX4_qualityWanted cX4_qualityWanted 2 (some .int), Cond.methodLink RL 158 yX5_qualityWanted, Cond.instanceMethod yX5_qualityWanted, Cond.selects RX5 yX5_qualityWanted yX5_qualityWanted, Cond.code yX5_qualityWanted cX5_qualityWanted 1 (some .int), Cond.methodLink RX5 134 yX5_wanted, Cond.instanceMethod yX5_wanted, Cond.selects RX5 yX5_wanted yX5_wanted, Cond.code yX5_wanted cX5_wanted 3 (some .int), Cond.methodLink RL 159 yX4_uselessCode, Cond.instanceMethod yX4_uselessCode, Cond.selects RX4 yX4_uselessCode yX4_uselessCode, Cond.code yX4_uselessCode cX4_uselessCode 2 (some .int), Cond.methodLink RX4 188 yX2_partWithout, Cond.instanceMethod yX2_partWithout, Cond.selects RX2 yX2_partWithout yX2_partWithout, Cond.code yX2_partWithout cX2_partWithout 4 none, Cond.methodLink RL 162 yX5_uselessCode, Cond.instanceMethod yX5_uselessCode, Cond.selects RX5 yX5_uselessCode yX5_uselessCode, Cond.code yX5_uselessCode cX5_uselessCode 1 (some .int), Cond.methodLink RX5 137 yX5_useless]
def wsL_law0_r27 : List Cond := [Cond.instanceMethod yX5_useless, Cond.selects RX5 yX5_useless yX5_useless, Cond.code yX5_useless cX5_useless 3 (some .int), Cond.methodLink RL 163 yL_bestNewCode, Cond.static yL_bestNewCode, Cond.codeWith yL_bestNewCode cL_bestNewCode 4 (some .int) [(0, 9, 12, 13)], Cond.methodLink RL 51 yX4_bestNewCode, Cond.instanceMethod yX4_bestNewCode, Cond.selects RX4 yX4_bestNewCode yX4_bestNewCode, Cond.code yX4_bestNewCode cX4_bestNewCode 2 (some .int), Cond.methodLink RX4 194 yX4_bestStart, Cond.instanceMethod yX4_bestStart, Cond.selects RX4 yX4_bestStart yX4_bestStart, Cond.code yX4_bestStart cX4_bestStart 5 (some .int), Cond.methodLink RX4 250 yX2_partWithNew, Cond.instanceMethod yX2_partWithNew, Cond.selects RX2 yX2_partWithNew yX2_partWithNew, Cond.code yX2_partWithNew cX2_partWithNew 5 none, Cond.methodLink RL 165 yX5_bestNewCode, Cond.instanceMethod yX5_bestNewCode, Cond.selects RX5 yX5_bestNewCode yX5_bestNewCode, Cond.code yX5_bestNewCode cX5_bestNewCode 2 (some .int), Cond.methodLink RX5 140 yX5_bestNew, Cond.instanceMethod yX5_bestNew]
def wsL_law0_r28 : List Cond := [Cond.selects RX5 yX5_bestNew yX5_bestNew, Cond.code yX5_bestNew cX5_bestNew 5 (some .int), Cond.methodLink RL 166 yX4_meanLength, Cond.instanceMethod yX4_meanLength, Cond.selects RX4 yX4_meanLength yX4_meanLength, Cond.code yX4_meanLength cX4_meanLength 3 (some .double), Cond.methodLink RL 170 yX5_meanLength, Cond.instanceMethod yX5_meanLength, Cond.selects RX5 yX5_meanLength yX5_meanLength, Cond.code yX5_meanLength cX5_meanLength 3 (some .double), Cond.methodLink RL 171 yX4_digest, Cond.instanceMethod yX4_digest, Cond.selects RX4 yX4_digest yX4_digest, Cond.code yX4_digest cX4_digest 4 (some .long), Cond.constantLong RX4 197 (2143), Cond.methodLink RX4 199 yX4_codes, Cond.methodLink RX4 202 yX4_withNumber, Cond.static yX4_withNumber, Cond.code yX4_withNumber cX4_withNumber 4 (some .long), Cond.constantLong RX4 248 (31), Cond.methodLink RX4 206 yX4_words, Cond.methodLink RX4 209 yX4_groups, Cond.methodLink RX4 212 yX4_saved, Cond.methodLink RX4 215 yX4_sentGroups]
def wsL_law0_r29 : List Cond := [Cond.methodLink RX4 217 yX4_repeats, Cond.methodLink RX4 219 yX4_lost, Cond.methodLink RX4 221 yX4_earned, Cond.methodLink RX4 223 yX4_untilGarbled, Cond.methodLink RX4 226 yX4_wouldBeGarbled, Cond.methodLink RX4 229 yX4_repeatsIfSent, Cond.methodLink RX4 232 yX4_qualityWanted, Cond.methodLink RX4 235 yX4_uselessCode, Cond.methodLink RX4 238 yX4_withCodes, Cond.instanceMethod yX4_withCodes, Cond.selects RX4 yX4_withCodes yX4_withCodes, Cond.code yX4_withCodes cX4_withCodes 6 (some .long), Cond.methodLink RX4 242 yX4_withWords, Cond.instanceMethod yX4_withWords, Cond.selects RX4 yX4_withWords yX4_withWords, Cond.code yX4_withWords cX4_withWords 6 (some .long), Cond.methodLink RX4 245 yX4_withGroups, Cond.instanceMethod yX4_withGroups, Cond.selects RX4 yX4_withGroups yX4_withGroups, Cond.code yX4_withGroups cX4_withGroups 6 (some .long), Cond.methodLink RL 175 yX5_digest, Cond.instanceMethod yX5_digest, Cond.selects RX5 yX5_digest yX5_digest, Cond.code yX5_digest cX5_digest 8 (some .long)]
def wsL_law0_r30 : List Cond := [Cond.constantLong RX5 143 (2143), Cond.constantLong RX5 145 (31)]
def wsL_law0 : List Cond := (wsL_law0_r1 ++ (wsL_law0_r2 ++ (wsL_law0_r3 ++ (wsL_law0_r4 ++ (wsL_law0_r5 ++ (wsL_law0_r6 ++ (wsL_law0_r7 ++ (wsL_law0_r8 ++ (wsL_law0_r9 ++ (wsL_law0_r10 ++ (wsL_law0_r11 ++ (wsL_law0_r12 ++ (wsL_law0_r13 ++ (wsL_law0_r14 ++ (wsL_law0_r15 ++ (wsL_law0_r16 ++ (wsL_law0_r17 ++ (wsL_law0_r18 ++ (wsL_law0_r19 ++ (wsL_law0_r20 ++ (wsL_law0_r21 ++ (wsL_law0_r22 ++ (wsL_law0_r23 ++ (wsL_law0_r24 ++ (wsL_law0_r25 ++ (wsL_law0_r26 ++ (wsL_law0_r27 ++ (wsL_law0_r28 ++ (wsL_law0_r29 ++ wsL_law0_r30))))))))))))))))))))))))))))) ++ wsX40 ++ wsX50 ++ wsX00 ++ wsX10 ++ wsX20 ++ wsX30 ++ ([] : List Cond)
def wsL_law : List Cond := wsL_law0 ++ (vx_atS RX4 52 "java/lang/IllegalArgumentException" ["java/lang/RuntimeException", "java/lang/Exception"]).filter goodWord ++ (vx_atS RX4 70 "java/lang/IllegalStateException" ["java/lang/RuntimeException", "java/lang/Exception"]).filter goodWord ++ (vx_atS RX4 95 "java/lang/IndexOutOfBoundsException" ["java/lang/RuntimeException", "java/lang/Exception"]).filter goodWord
abbrev vwCl : List vw_C := [(RX0, TX0, 3), (RX1, TX1, 2), (RX2, TX2, 5), (RX3, TX3, 4), (RX4, TX4, 10), (RX5, TX5, 17)]
end
section
set_option maxRecDepth 20000 in
theorem wsL_law0_r1_i : ∀ w ∈ wsL_law0_r1, w ∈ lw_tbl := fun w h => (goodIn_p wsL_law0_r1 [52, 55] (by decide +kernel) (by decide +kernel) w h).1
set_option maxRecDepth 20000 in
theorem wsL_law0_r2_i : ∀ w ∈ wsL_law0_r2, w ∈ lw_tbl := fun w h => (goodIn_p wsL_law0_r2 [60, 77, 90] (by decide +kernel) (by decide +kernel) w h).1
set_option maxRecDepth 20000 in
theorem wsL_law0_r3_i : ∀ w ∈ wsL_law0_r3, w ∈ lw_tbl := fun w h => (goodIn_p wsL_law0_r3 [112, 660] (by decide +kernel) (by decide +kernel) w h).1
set_option maxRecDepth 20000 in
theorem wsL_law0_r4_i : ∀ w ∈ wsL_law0_r4, w ∈ lw_tbl := fun w h => (goodIn_p wsL_law0_r4 [419, 422, 493, 499, 519] (by decide +kernel) (by decide +kernel) w h).1
set_option maxRecDepth 20000 in
theorem wsL_law0_r5_i : ∀ w ∈ wsL_law0_r5, w ∈ lw_tbl := fun w h => (goodIn_p wsL_law0_r5 [222, 210, 525, 181, 185, 189] (by decide +kernel) (by decide +kernel) w h).1
set_option maxRecDepth 20000 in
theorem wsL_law0_r6_i : ∀ w ∈ wsL_law0_r6, w ∈ lw_tbl := fun w h => (goodIn_p wsL_law0_r6 [193, 173, 197, 165, 202, 206] (by decide +kernel) (by decide +kernel) w h).1
set_option maxRecDepth 20000 in
theorem wsL_law0_r7_i : ∀ w ∈ wsL_law0_r7, w ∈ lw_tbl := fun w h => (goodIn_p wsL_law0_r7 [214, 218, 227, 231, 235] (by decide +kernel) (by decide +kernel) w h).1
set_option maxRecDepth 20000 in
theorem wsL_law0_r8_i : ∀ w ∈ wsL_law0_r8, w ∈ lw_tbl := fun w h => (goodIn_p wsL_law0_r8 [721, 724, 727, 731, 717] (by decide +kernel) (by decide +kernel) w h).1
set_option maxRecDepth 20000 in
theorem wsL_law0_r9_i : ∀ w ∈ wsL_law0_r9, w ∈ lw_tbl := fun w h => (goodIn_p wsL_law0_r9 [534, 555, 735, 739] (by decide +kernel) (by decide +kernel) w h).1
set_option maxRecDepth 20000 in
theorem wsL_law0_r10_i : ∀ w ∈ wsL_law0_r10, w ∈ lw_tbl := fun w h => (goodIn_p wsL_law0_r10 [161, 743, 747, 565, 751] (by decide +kernel) (by decide +kernel) w h).1
set_option maxRecDepth 20000 in
theorem wsL_law0_r11_i : ∀ w ∈ wsL_law0_r11, w ∈ lw_tbl := fun w h => (goodIn_p wsL_law0_r11 [572, 577, 582, 755] (by decide +kernel) (by decide +kernel) w h).1
set_option maxRecDepth 20000 in
theorem wsL_law0_r12_i : ∀ w ∈ wsL_law0_r12, w ∈ lw_tbl := fun w h => (goodIn_p wsL_law0_r12 [590, 595, 279, 759, 169, 177] (by decide +kernel) (by decide +kernel) w h).1
set_option maxRecDepth 20000 in
theorem wsL_law0_r13_i : ∀ w ∈ wsL_law0_r13, w ∈ lw_tbl := fun w h => (goodIn_p wsL_law0_r13 [763, 239, 767, 603, 771] (by decide +kernel) (by decide +kernel) w h).1
set_option maxRecDepth 20000 in
theorem wsL_law0_r14_i : ∀ w ∈ wsL_law0_r14, w ∈ lw_tbl := fun w h => (goodIn_p wsL_law0_r14 [243, 247, 775, 779, 783, 787] (by decide +kernel) (by decide +kernel) w h).1
set_option maxRecDepth 20000 in
theorem wsL_law0_r15_i : ∀ w ∈ wsL_law0_r15, w ∈ lw_tbl := fun w h => (goodIn_p wsL_law0_r15 [612, 259, 255, 791, 795] (by decide +kernel) (by decide +kernel) w h).1
set_option maxRecDepth 20000 in
theorem wsL_law0_r16_i : ∀ w ∈ wsL_law0_r16, w ∈ lw_tbl := fun w h => (goodIn_p wsL_law0_r16 [799, 621, 263, 803] (by decide +kernel) (by decide +kernel) w h).1
set_option maxRecDepth 20000 in
theorem wsL_law0_r17_i : ∀ w ∈ wsL_law0_r17, w ∈ lw_tbl := fun w h => (goodIn_p wsL_law0_r17 [628, 400, 807, 811, 251, 267] (by decide +kernel) (by decide +kernel) w h).1
set_option maxRecDepth 20000 in
theorem wsL_law0_r18_i : ∀ w ∈ wsL_law0_r18, w ∈ lw_tbl := fun w h => (goodIn_p wsL_law0_r18 [815, 819, 271, 276, 823, 827] (by decide +kernel) (by decide +kernel) w h).1
set_option maxRecDepth 20000 in
theorem wsL_law0_r19_i : ∀ w ∈ wsL_law0_r19, w ∈ lw_tbl := fun w h => (goodIn_p wsL_law0_r19 [831, 283, 287, 836, 840] (by decide +kernel) (by decide +kernel) w h).1
set_option maxRecDepth 20000 in
theorem wsL_law0_r20_i : ∀ w ∈ wsL_law0_r20, w ∈ lw_tbl := fun w h => (goodIn_p wsL_law0_r20 [635, 844, 643] (by decide +kernel) (by decide +kernel) w h).1
set_option maxRecDepth 20000 in
theorem wsL_law0_r21_i : ∀ w ∈ wsL_law0_r21, w ∈ lw_tbl := fun w h => (goodIn_p wsL_law0_r21 [320, 324, 328, 312, 647, 341] (by decide +kernel) (by decide +kernel) w h).1
set_option maxRecDepth 20000 in
theorem wsL_law0_r22_i : ∀ w ∈ wsL_law0_r22, w ∈ lw_tbl := fun w h => (goodIn_p wsL_law0_r22 [349, 848, 852, 855] (by decide +kernel) (by decide +kernel) w h).1
set_option maxRecDepth 20000 in
theorem wsL_law0_r23_i : ∀ w ∈ wsL_law0_r23, w ∈ lw_tbl := fun w h => (goodIn_p wsL_law0_r23 [293, 859, 297, 863, 301, 867] (by decide +kernel) (by decide +kernel) w h).1
set_option maxRecDepth 20000 in
theorem wsL_law0_r24_i : ∀ w ∈ wsL_law0_r24, w ∈ lw_tbl := fun w h => (goodIn_p wsL_law0_r24 [305, 871, 309, 875, 879, 316] (by decide +kernel) (by decide +kernel) w h).1
set_option maxRecDepth 20000 in
theorem wsL_law0_r25_i : ∀ w ∈ wsL_law0_r25, w ∈ lw_tbl := fun w h => (goodIn_p wsL_law0_r25 [333, 883, 887, 337, 891, 895] (by decide +kernel) (by decide +kernel) w h).1
set_option maxRecDepth 20000 in
theorem wsL_law0_r26_i : ∀ w ∈ wsL_law0_r26, w ∈ lw_tbl := fun w h => (goodIn_p wsL_law0_r26 [345, 899, 903, 353, 357, 907] (by decide +kernel) (by decide +kernel) w h).1
set_option maxRecDepth 20000 in
theorem wsL_law0_r27_i : ∀ w ∈ wsL_law0_r27, w ∈ lw_tbl := fun w h => (goodIn_p wsL_law0_r27 [911, 654, 388, 392, 915] (by decide +kernel) (by decide +kernel) w h).1
set_option maxRecDepth 20000 in
theorem wsL_law0_r28_i : ∀ w ∈ wsL_law0_r28, w ∈ lw_tbl := fun w h => (goodIn_p wsL_law0_r28 [919, 361, 923, 366, 371] (by decide +kernel) (by decide +kernel) w h).1
set_option maxRecDepth 20000 in
theorem wsL_law0_r29_i : ∀ w ∈ wsL_law0_r29, w ∈ lw_tbl := fun w h => (goodIn_p wsL_law0_r29 [396, 405, 410, 927] (by decide +kernel) (by decide +kernel) w h).1
set_option maxRecDepth 20000 in
theorem wsL_law0_r30_i : ∀ w ∈ wsL_law0_r30, w ∈ lw_tbl := fun w h => (goodIn_p wsL_law0_r30 [] (by decide +kernel) (by decide +kernel) w h).1
set_option maxRecDepth 20000 in
theorem wsX40_i : ∀ w ∈ wsX40, w ∈ lw_tbl := by decide +kernel
set_option maxRecDepth 20000 in
theorem wsX50_i : ∀ w ∈ wsX50, w ∈ lw_tbl := by decide +kernel
set_option maxRecDepth 20000 in
theorem wsX00_i : ∀ w ∈ wsX00, w ∈ lw_tbl := by decide +kernel
set_option maxRecDepth 20000 in
theorem wsX10_i : ∀ w ∈ wsX10, w ∈ lw_tbl := by decide +kernel
set_option maxRecDepth 20000 in
theorem wsX20_i : ∀ w ∈ wsX20, w ∈ lw_tbl := by decide +kernel
set_option maxRecDepth 20000 in
theorem wsX30_i : ∀ w ∈ wsX30, w ∈ lw_tbl := by decide +kernel
theorem wsL_law_in0 : ∀ w ∈ wsL_law0, w ∈ lw_tbl := by
  unfold wsL_law0
  exact List.forall_mem_append.mpr ⟨List.forall_mem_append.mpr ⟨List.forall_mem_append.mpr ⟨List.forall_mem_append.mpr ⟨List.forall_mem_append.mpr ⟨List.forall_mem_append.mpr ⟨List.forall_mem_append.mpr ⟨List.forall_mem_append.mpr ⟨wsL_law0_r1_i, List.forall_mem_append.mpr ⟨wsL_law0_r2_i, List.forall_mem_append.mpr ⟨wsL_law0_r3_i, List.forall_mem_append.mpr ⟨wsL_law0_r4_i, List.forall_mem_append.mpr ⟨wsL_law0_r5_i, List.forall_mem_append.mpr ⟨wsL_law0_r6_i, List.forall_mem_append.mpr ⟨wsL_law0_r7_i, List.forall_mem_append.mpr ⟨wsL_law0_r8_i, List.forall_mem_append.mpr ⟨wsL_law0_r9_i, List.forall_mem_append.mpr ⟨wsL_law0_r10_i, List.forall_mem_append.mpr ⟨wsL_law0_r11_i, List.forall_mem_append.mpr ⟨wsL_law0_r12_i, List.forall_mem_append.mpr ⟨wsL_law0_r13_i, List.forall_mem_append.mpr ⟨wsL_law0_r14_i, List.forall_mem_append.mpr ⟨wsL_law0_r15_i, List.forall_mem_append.mpr ⟨wsL_law0_r16_i, List.forall_mem_append.mpr ⟨wsL_law0_r17_i, List.forall_mem_append.mpr ⟨wsL_law0_r18_i, List.forall_mem_append.mpr ⟨wsL_law0_r19_i, List.forall_mem_append.mpr ⟨wsL_law0_r20_i, List.forall_mem_append.mpr ⟨wsL_law0_r21_i, List.forall_mem_append.mpr ⟨wsL_law0_r22_i, List.forall_mem_append.mpr ⟨wsL_law0_r23_i, List.forall_mem_append.mpr ⟨wsL_law0_r24_i, List.forall_mem_append.mpr ⟨wsL_law0_r25_i, List.forall_mem_append.mpr ⟨wsL_law0_r26_i, List.forall_mem_append.mpr ⟨wsL_law0_r27_i, List.forall_mem_append.mpr ⟨wsL_law0_r28_i, List.forall_mem_append.mpr ⟨wsL_law0_r29_i, wsL_law0_r30_i⟩⟩⟩⟩⟩⟩⟩⟩⟩⟩⟩⟩⟩⟩⟩⟩⟩⟩⟩⟩⟩⟩⟩⟩⟩⟩⟩⟩⟩, wsX40_i⟩, wsX50_i⟩, wsX00_i⟩, wsX10_i⟩, wsX20_i⟩, wsX30_i⟩, fun _ h => absurd h List.not_mem_nil⟩
theorem wsL_law_x0 : ∀ w ∈ (vx_atS RX4 52 "java/lang/IllegalArgumentException" ["java/lang/RuntimeException", "java/lang/Exception"]).filter goodWord, w ∈ lw_tbl := by decide +kernel
theorem wsL_law_x1 : ∀ w ∈ (vx_atS RX4 70 "java/lang/IllegalStateException" ["java/lang/RuntimeException", "java/lang/Exception"]).filter goodWord, w ∈ lw_tbl := by decide +kernel
theorem wsL_law_x2 : ∀ w ∈ (vx_atS RX4 95 "java/lang/IndexOutOfBoundsException" ["java/lang/RuntimeException", "java/lang/Exception"]).filter goodWord, w ∈ lw_tbl := by decide +kernel
theorem wsL_law_in : ∀ w ∈ wsL_law, w ∈ lw_tbl := fun w h => (List.mem_append.mp h).elim (fun h => (List.mem_append.mp h).elim (fun h => (List.mem_append.mp h).elim (fun h => wsL_law_in0 w h) (fun h => wsL_law_x0 w h)) (fun h => wsL_law_x1 w h)) (fun h => wsL_law_x2 w h)
theorem inlX0 : ∀ w ∈ wsX00, w ∈ wsL_law := fun _ h => List.mem_append_left _ (List.mem_append_left _ (List.mem_append_left _ (List.mem_append_left _ (List.mem_append_left _ (List.mem_append_left _ (List.mem_append_left _ (List.mem_append_right _ h)))))))
theorem inX0 : ∀ w ∈ wsX00, w ∈ lw_tbl := fun w h => wsL_law_in w (inlX0 w h)
theorem inlX1 : ∀ w ∈ wsX10, w ∈ wsL_law := fun _ h => List.mem_append_left _ (List.mem_append_left _ (List.mem_append_left _ (List.mem_append_left _ (List.mem_append_left _ (List.mem_append_left _ (List.mem_append_right _ h))))))
theorem inX1 : ∀ w ∈ wsX10, w ∈ lw_tbl := fun w h => wsL_law_in w (inlX1 w h)
theorem inlX2 : ∀ w ∈ wsX20, w ∈ wsL_law := fun _ h => List.mem_append_left _ (List.mem_append_left _ (List.mem_append_left _ (List.mem_append_left _ (List.mem_append_left _ (List.mem_append_right _ h)))))
theorem inX2 : ∀ w ∈ wsX20, w ∈ lw_tbl := fun w h => wsL_law_in w (inlX2 w h)
theorem inlX3 : ∀ w ∈ wsX30, w ∈ wsL_law := fun _ h => List.mem_append_left _ (List.mem_append_left _ (List.mem_append_left _ (List.mem_append_left _ (List.mem_append_right _ h))))
theorem inX3 : ∀ w ∈ wsX30, w ∈ lw_tbl := fun w h => wsL_law_in w (inlX3 w h)
theorem inlX4 : ∀ w ∈ wsX40, w ∈ wsL_law := fun _ h => List.mem_append_left _ (List.mem_append_left _ (List.mem_append_left _ (List.mem_append_left _ (List.mem_append_left _ (List.mem_append_left _ (List.mem_append_left _ (List.mem_append_left _ (List.mem_append_left _ (List.mem_append_right _ h)))))))))
theorem inX4 : ∀ w ∈ wsX40, w ∈ lw_tbl := fun w h => wsL_law_in w (inlX4 w h)
theorem inlX5 : ∀ w ∈ wsX50, w ∈ wsL_law := fun _ h => List.mem_append_left _ (List.mem_append_left _ (List.mem_append_left _ (List.mem_append_left _ (List.mem_append_left _ (List.mem_append_left _ (List.mem_append_left _ (List.mem_append_left _ (List.mem_append_right _ h))))))))
theorem inX5 : ∀ w ∈ wsX50, w ∈ lw_tbl := fun w h => wsL_law_in w (inlX5 w h)
theorem inJ9 : ∀ w ∈ wsJ90, w ∈ lw_tbl := by decide +kernel
theorem inJ0 : ∀ w ∈ wsJ00, w ∈ lw_tbl := by decide +kernel
theorem inJ10 : ∀ w ∈ wsJ100, w ∈ lw_tbl := by decide +kernel
end
section
theorem dX0_init_0 : decode cX0_init 0 = .ok (.aload_n 0, 1) := by decide +kernel
theorem dX0_init_1 : decode cX0_init 1 = .ok (.invokespecial 3, 3) := by decide +kernel
theorem dX0_init_4 : decode cX0_init 4 = .ok (.aload_n 0, 1) := by decide +kernel
theorem dX0_init_5 : decode cX0_init 5 = .ok (.bipush 32, 2) := by decide +kernel
theorem dX0_init_7 : decode cX0_init 7 = .ok (.newarray .int, 2) := by decide +kernel
theorem dX0_init_9 : decode cX0_init 9 = .ok (.putfield 9, 3) := by decide +kernel
theorem dX0_init_12 : decode cX0_init 12 = .ok (.aload_n 0, 1) := by decide +kernel
theorem dX0_init_13 : decode cX0_init 13 = .ok (.bipush 8, 2) := by decide +kernel
theorem dX0_init_15 : decode cX0_init 15 = .ok (.newarray .int, 2) := by decide +kernel
theorem dX0_init_17 : decode cX0_init 17 = .ok (.putfield 15, 3) := by decide +kernel
theorem dX0_init_20 : decode cX0_init 20 = .ok (.return_, 1) := by decide +kernel
theorem dX0_size_0 : decode cX0_size 0 = .ok (.aload_n 0, 1) := by decide +kernel
theorem dX0_size_1 : decode cX0_size 1 = .ok (.getfield 18, 3) := by decide +kernel
theorem dX0_size_4 : decode cX0_size 4 = .ok (.ireturn, 1) := by decide +kernel
theorem dX0_isFull_0 : decode cX0_isFull 0 = .ok (.aload_n 0, 1) := by decide +kernel
theorem dX0_isFull_1 : decode cX0_isFull 1 = .ok (.getfield 18, 3) := by decide +kernel
theorem dX0_isFull_4 : decode cX0_isFull 4 = .ok (.bipush 8, 2) := by decide +kernel
theorem dX0_isFull_6 : decode cX0_isFull 6 = .ok (.if_icmp .lt 7, 3) := by decide +kernel
theorem dX0_isFull_9 : decode cX0_isFull 9 = .ok (.iconst 1, 1) := by decide +kernel
theorem dX0_isFull_10 : decode cX0_isFull 10 = .ok (.goto 4, 3) := by decide +kernel
theorem dX0_isFull_13 : decode cX0_isFull 13 = .ok (.iconst 0, 1) := by decide +kernel
theorem dX0_isFull_14 : decode cX0_isFull 14 = .ok (.ireturn, 1) := by decide +kernel
theorem dX0_has_0 : decode cX0_has 0 = .ok (.iload_n 1, 1) := by decide +kernel
theorem dX0_has_1 : decode cX0_has 1 = .ok (.ifCond .lt 15, 3) := by decide +kernel
theorem dX0_has_4 : decode cX0_has 4 = .ok (.iload_n 1, 1) := by decide +kernel
theorem dX0_has_5 : decode cX0_has 5 = .ok (.aload_n 0, 1) := by decide +kernel
theorem dX0_has_6 : decode cX0_has 6 = .ok (.getfield 18, 3) := by decide +kernel
theorem dX0_has_9 : decode cX0_has 9 = .ok (.if_icmp .ge 7, 3) := by decide +kernel
theorem dX0_has_12 : decode cX0_has 12 = .ok (.iconst 1, 1) := by decide +kernel
theorem dX0_has_13 : decode cX0_has 13 = .ok (.goto 4, 3) := by decide +kernel
theorem dX0_has_16 : decode cX0_has 16 = .ok (.iconst 0, 1) := by decide +kernel
theorem dX0_has_17 : decode cX0_has 17 = .ok (.ireturn, 1) := by decide +kernel
set_option maxRecDepth 20000 in
theorem ggX0_typeIn_X0_has : GoodIn wsX0_typeIn wsX0_has := goodIn_r _ [6, 7, 8, 9, 10] (by decide +kernel) (by decide +kernel)
set_option maxRecDepth 20000 in
theorem gX0_typeIn_X0_has : GoodIn wsX0_typeIn (wsV RX0 22 RX0 yX0_has wsX0_has) := goodIn_app (goodIn_of _ (by decide +kernel)) ggX0_typeIn_X0_has
theorem dX0_typeIn_0 : decode cX0_typeIn 0 = .ok (.aload_n 0, 1) := by decide +kernel
theorem dX0_typeIn_1 : decode cX0_typeIn 1 = .ok (.iload_n 1, 1) := by decide +kernel
theorem dX0_typeIn_2 : decode cX0_typeIn 2 = .ok (.invokevirtual 22, 3) := by decide +kernel
theorem dX0_typeIn_5 : decode cX0_typeIn 5 = .ok (.ifCond .eq 12, 3) := by decide +kernel
theorem dX0_typeIn_8 : decode cX0_typeIn 8 = .ok (.iload_n 2, 1) := by decide +kernel
theorem dX0_typeIn_9 : decode cX0_typeIn 9 = .ok (.ifCond .lt 8, 3) := by decide +kernel
theorem dX0_typeIn_12 : decode cX0_typeIn 12 = .ok (.iload_n 2, 1) := by decide +kernel
theorem dX0_typeIn_13 : decode cX0_typeIn 13 = .ok (.iconst 4, 1) := by decide +kernel
theorem dX0_typeIn_14 : decode cX0_typeIn 14 = .ok (.if_icmp .lt 5, 3) := by decide +kernel
theorem dX0_typeIn_17 : decode cX0_typeIn 17 = .ok (.iconst (-1), 1) := by decide +kernel
theorem dX0_typeIn_18 : decode cX0_typeIn 18 = .ok (.ireturn, 1) := by decide +kernel
theorem dX0_typeIn_19 : decode cX0_typeIn 19 = .ok (.aload_n 0, 1) := by decide +kernel
theorem dX0_typeIn_20 : decode cX0_typeIn 20 = .ok (.getfield 9, 3) := by decide +kernel
theorem dX0_typeIn_23 : decode cX0_typeIn 23 = .ok (.iload_n 1, 1) := by decide +kernel
theorem dX0_typeIn_24 : decode cX0_typeIn 24 = .ok (.iconst 4, 1) := by decide +kernel
theorem dX0_typeIn_25 : decode cX0_typeIn 25 = .ok (.imul, 1) := by decide +kernel
theorem dX0_typeIn_26 : decode cX0_typeIn 26 = .ok (.iload_n 2, 1) := by decide +kernel
theorem dX0_typeIn_27 : decode cX0_typeIn 27 = .ok (.iadd, 1) := by decide +kernel
theorem dX0_typeIn_28 : decode cX0_typeIn 28 = .ok (.iaload, 1) := by decide +kernel
theorem dX0_typeIn_29 : decode cX0_typeIn 29 = .ok (.ireturn, 1) := by decide +kernel
set_option maxRecDepth 20000 in
theorem ggX0_wordsIn_X0_has : GoodIn wsX0_wordsIn wsX0_has := goodIn_r _ [6, 7, 8, 9, 10] (by decide +kernel) (by decide +kernel)
set_option maxRecDepth 20000 in
theorem gX0_wordsIn_X0_has : GoodIn wsX0_wordsIn (wsV RX0 22 RX0 yX0_has wsX0_has) := goodIn_app (goodIn_of _ (by decide +kernel)) ggX0_wordsIn_X0_has
theorem dX0_wordsIn_0 : decode cX0_wordsIn 0 = .ok (.aload_n 0, 1) := by decide +kernel
theorem dX0_wordsIn_1 : decode cX0_wordsIn 1 = .ok (.iload_n 1, 1) := by decide +kernel
theorem dX0_wordsIn_2 : decode cX0_wordsIn 2 = .ok (.invokevirtual 22, 3) := by decide +kernel
theorem dX0_wordsIn_5 : decode cX0_wordsIn 5 = .ok (.ifCond .eq 12, 3) := by decide +kernel
theorem dX0_wordsIn_8 : decode cX0_wordsIn 8 = .ok (.aload_n 0, 1) := by decide +kernel
theorem dX0_wordsIn_9 : decode cX0_wordsIn 9 = .ok (.getfield 15, 3) := by decide +kernel
theorem dX0_wordsIn_12 : decode cX0_wordsIn 12 = .ok (.iload_n 1, 1) := by decide +kernel
theorem dX0_wordsIn_13 : decode cX0_wordsIn 13 = .ok (.iaload, 1) := by decide +kernel
theorem dX0_wordsIn_14 : decode cX0_wordsIn 14 = .ok (.goto 4, 3) := by decide +kernel
theorem dX0_wordsIn_17 : decode cX0_wordsIn 17 = .ok (.iconst 0, 1) := by decide +kernel
theorem dX0_wordsIn_18 : decode cX0_wordsIn 18 = .ok (.ireturn, 1) := by decide +kernel
set_option maxRecDepth 20000 in
theorem ggX0_holds_X0_typeIn : GoodIn wsX0_holds wsX0_typeIn := goodIn_r _ [6, 7, 8, 9, 10, 5, 11, 1, 12, 13, 14] (by decide +kernel) (by decide +kernel)
set_option maxRecDepth 20000 in
theorem gX0_holds_X0_typeIn : GoodIn wsX0_holds (wsV RX0 26 RX0 yX0_typeIn wsX0_typeIn) := goodIn_app (goodIn_of _ (by decide +kernel)) ggX0_holds_X0_typeIn
theorem dX0_holds_0 : decode cX0_holds 0 = .ok (.iconst 0, 1) := by decide +kernel
theorem dX0_holds_1 : decode cX0_holds 1 = .ok (.istore 5, 2) := by decide +kernel
theorem dX0_holds_3 : decode cX0_holds 3 = .ok (.iload 5, 2) := by decide +kernel
theorem dX0_holds_5 : decode cX0_holds 5 = .ok (.aload_n 0, 1) := by decide +kernel
theorem dX0_holds_6 : decode cX0_holds 6 = .ok (.getfield 18, 3) := by decide +kernel
theorem dX0_holds_9 : decode cX0_holds 9 = .ok (.if_icmp .ge 56, 3) := by decide +kernel
theorem dX0_holds_12 : decode cX0_holds 12 = .ok (.aload_n 0, 1) := by decide +kernel
theorem dX0_holds_13 : decode cX0_holds 13 = .ok (.iload 5, 2) := by decide +kernel
theorem dX0_holds_15 : decode cX0_holds 15 = .ok (.iconst 0, 1) := by decide +kernel
theorem dX0_holds_16 : decode cX0_holds 16 = .ok (.invokevirtual 26, 3) := by decide +kernel
theorem dX0_holds_19 : decode cX0_holds 19 = .ok (.iload_n 1, 1) := by decide +kernel
theorem dX0_holds_20 : decode cX0_holds 20 = .ok (.if_icmp .ne 39, 3) := by decide +kernel
theorem dX0_holds_23 : decode cX0_holds 23 = .ok (.aload_n 0, 1) := by decide +kernel
theorem dX0_holds_24 : decode cX0_holds 24 = .ok (.iload 5, 2) := by decide +kernel
theorem dX0_holds_26 : decode cX0_holds 26 = .ok (.iconst 1, 1) := by decide +kernel
theorem dX0_holds_27 : decode cX0_holds 27 = .ok (.invokevirtual 26, 3) := by decide +kernel
theorem dX0_holds_30 : decode cX0_holds 30 = .ok (.iload_n 2, 1) := by decide +kernel
theorem dX0_holds_31 : decode cX0_holds 31 = .ok (.if_icmp .ne 28, 3) := by decide +kernel
theorem dX0_holds_34 : decode cX0_holds 34 = .ok (.aload_n 0, 1) := by decide +kernel
theorem dX0_holds_35 : decode cX0_holds 35 = .ok (.iload 5, 2) := by decide +kernel
theorem dX0_holds_37 : decode cX0_holds 37 = .ok (.iconst 2, 1) := by decide +kernel
theorem dX0_holds_38 : decode cX0_holds 38 = .ok (.invokevirtual 26, 3) := by decide +kernel
theorem dX0_holds_41 : decode cX0_holds 41 = .ok (.iload_n 3, 1) := by decide +kernel
theorem dX0_holds_42 : decode cX0_holds 42 = .ok (.if_icmp .ne 17, 3) := by decide +kernel
theorem dX0_holds_45 : decode cX0_holds 45 = .ok (.aload_n 0, 1) := by decide +kernel
theorem dX0_holds_46 : decode cX0_holds 46 = .ok (.iload 5, 2) := by decide +kernel
theorem dX0_holds_48 : decode cX0_holds 48 = .ok (.iconst 3, 1) := by decide +kernel
theorem dX0_holds_49 : decode cX0_holds 49 = .ok (.invokevirtual 26, 3) := by decide +kernel
theorem dX0_holds_52 : decode cX0_holds 52 = .ok (.iload 4, 2) := by decide +kernel
theorem dX0_holds_54 : decode cX0_holds 54 = .ok (.if_icmp .ne 5, 3) := by decide +kernel
theorem dX0_holds_57 : decode cX0_holds 57 = .ok (.iconst 1, 1) := by decide +kernel
theorem dX0_holds_58 : decode cX0_holds 58 = .ok (.ireturn, 1) := by decide +kernel
theorem dX0_holds_59 : decode cX0_holds 59 = .ok (.iinc 5 1, 3) := by decide +kernel
theorem dX0_holds_62 : decode cX0_holds 62 = .ok (.goto (-59), 3) := by decide +kernel
theorem dX0_holds_65 : decode cX0_holds 65 = .ok (.iconst 0, 1) := by decide +kernel
theorem dX0_holds_66 : decode cX0_holds 66 = .ok (.ireturn, 1) := by decide +kernel
set_option maxRecDepth 20000 in
theorem ggX0_append_X0_isFull : GoodIn wsX0_append wsX0_isFull := goodIn_r _ [8, 1, 9, 10, 11] (by decide +kernel) (by decide +kernel)
set_option maxRecDepth 20000 in
theorem gX0_append_X0_isFull : GoodIn wsX0_append (wsV RX0 30 RX0 yX0_isFull wsX0_isFull) := goodIn_app (goodIn_of _ (by decide +kernel)) ggX0_append_X0_isFull
theorem dX0_append_0 : decode cX0_append 0 = .ok (.aload_n 0, 1) := by decide +kernel
theorem dX0_append_1 : decode cX0_append 1 = .ok (.invokevirtual 30, 3) := by decide +kernel
theorem dX0_append_4 : decode cX0_append 4 = .ok (.ifCond .eq 4, 3) := by decide +kernel
theorem dX0_append_7 : decode cX0_append 7 = .ok (.return_, 1) := by decide +kernel
theorem dX0_append_8 : decode cX0_append 8 = .ok (.aload_n 0, 1) := by decide +kernel
theorem dX0_append_9 : decode cX0_append 9 = .ok (.getfield 18, 3) := by decide +kernel
theorem dX0_append_12 : decode cX0_append 12 = .ok (.iconst 4, 1) := by decide +kernel
theorem dX0_append_13 : decode cX0_append 13 = .ok (.imul, 1) := by decide +kernel
theorem dX0_append_14 : decode cX0_append 14 = .ok (.istore 5, 2) := by decide +kernel
theorem dX0_append_16 : decode cX0_append 16 = .ok (.aload_n 0, 1) := by decide +kernel
theorem dX0_append_17 : decode cX0_append 17 = .ok (.getfield 9, 3) := by decide +kernel
theorem dX0_append_20 : decode cX0_append 20 = .ok (.iload 5, 2) := by decide +kernel
theorem dX0_append_22 : decode cX0_append 22 = .ok (.iload_n 1, 1) := by decide +kernel
theorem dX0_append_23 : decode cX0_append 23 = .ok (.iastore, 1) := by decide +kernel
theorem dX0_append_24 : decode cX0_append 24 = .ok (.aload_n 0, 1) := by decide +kernel
theorem dX0_append_25 : decode cX0_append 25 = .ok (.getfield 9, 3) := by decide +kernel
theorem dX0_append_28 : decode cX0_append 28 = .ok (.iload 5, 2) := by decide +kernel
theorem dX0_append_30 : decode cX0_append 30 = .ok (.iconst 1, 1) := by decide +kernel
theorem dX0_append_31 : decode cX0_append 31 = .ok (.iadd, 1) := by decide +kernel
theorem dX0_append_32 : decode cX0_append 32 = .ok (.iload_n 2, 1) := by decide +kernel
theorem dX0_append_33 : decode cX0_append 33 = .ok (.iastore, 1) := by decide +kernel
theorem dX0_append_34 : decode cX0_append 34 = .ok (.aload_n 0, 1) := by decide +kernel
theorem dX0_append_35 : decode cX0_append 35 = .ok (.getfield 9, 3) := by decide +kernel
theorem dX0_append_38 : decode cX0_append 38 = .ok (.iload 5, 2) := by decide +kernel
theorem dX0_append_40 : decode cX0_append 40 = .ok (.iconst 2, 1) := by decide +kernel
theorem dX0_append_41 : decode cX0_append 41 = .ok (.iadd, 1) := by decide +kernel
theorem dX0_append_42 : decode cX0_append 42 = .ok (.iload_n 3, 1) := by decide +kernel
theorem dX0_append_43 : decode cX0_append 43 = .ok (.iastore, 1) := by decide +kernel
theorem dX0_append_44 : decode cX0_append 44 = .ok (.aload_n 0, 1) := by decide +kernel
theorem dX0_append_45 : decode cX0_append 45 = .ok (.getfield 9, 3) := by decide +kernel
theorem dX0_append_48 : decode cX0_append 48 = .ok (.iload 5, 2) := by decide +kernel
theorem dX0_append_50 : decode cX0_append 50 = .ok (.iconst 3, 1) := by decide +kernel
theorem dX0_append_51 : decode cX0_append 51 = .ok (.iadd, 1) := by decide +kernel
theorem dX0_append_52 : decode cX0_append 52 = .ok (.iload 4, 2) := by decide +kernel
theorem dX0_append_54 : decode cX0_append 54 = .ok (.iastore, 1) := by decide +kernel
theorem dX0_append_55 : decode cX0_append 55 = .ok (.aload_n 0, 1) := by decide +kernel
theorem dX0_append_56 : decode cX0_append 56 = .ok (.getfield 15, 3) := by decide +kernel
theorem dX0_append_59 : decode cX0_append 59 = .ok (.aload_n 0, 1) := by decide +kernel
theorem dX0_append_60 : decode cX0_append 60 = .ok (.getfield 18, 3) := by decide +kernel
theorem dX0_append_63 : decode cX0_append 63 = .ok (.iconst 4, 1) := by decide +kernel
theorem dX0_append_64 : decode cX0_append 64 = .ok (.iastore, 1) := by decide +kernel
theorem dX0_append_65 : decode cX0_append 65 = .ok (.iload 4, 2) := by decide +kernel
theorem dX0_append_67 : decode cX0_append 67 = .ok (.iconst (-1), 1) := by decide +kernel
theorem dX0_append_68 : decode cX0_append 68 = .ok (.if_icmp .ne 22, 3) := by decide +kernel
theorem dX0_append_71 : decode cX0_append 71 = .ok (.aload_n 0, 1) := by decide +kernel
theorem dX0_append_72 : decode cX0_append 72 = .ok (.getfield 15, 3) := by decide +kernel
theorem dX0_append_75 : decode cX0_append 75 = .ok (.aload_n 0, 1) := by decide +kernel
theorem dX0_append_76 : decode cX0_append 76 = .ok (.getfield 18, 3) := by decide +kernel
theorem dX0_append_79 : decode cX0_append 79 = .ok (.iload_n 3, 1) := by decide +kernel
theorem dX0_append_80 : decode cX0_append 80 = .ok (.iconst (-1), 1) := by decide +kernel
theorem dX0_append_81 : decode cX0_append 81 = .ok (.if_icmp .ne 7, 3) := by decide +kernel
theorem dX0_append_84 : decode cX0_append 84 = .ok (.iconst 2, 1) := by decide +kernel
theorem dX0_append_85 : decode cX0_append 85 = .ok (.goto 4, 3) := by decide +kernel
theorem dX0_append_88 : decode cX0_append 88 = .ok (.iconst 3, 1) := by decide +kernel
theorem dX0_append_89 : decode cX0_append 89 = .ok (.iastore, 1) := by decide +kernel
theorem dX0_append_90 : decode cX0_append 90 = .ok (.aload_n 0, 1) := by decide +kernel
theorem dX0_append_91 : decode cX0_append 91 = .ok (.dup, 1) := by decide +kernel
theorem dX0_append_92 : decode cX0_append 92 = .ok (.getfield 18, 3) := by decide +kernel
theorem dX0_append_95 : decode cX0_append 95 = .ok (.iconst 1, 1) := by decide +kernel
theorem dX0_append_96 : decode cX0_append 96 = .ok (.iadd, 1) := by decide +kernel
theorem dX0_append_97 : decode cX0_append 97 = .ok (.putfield 18, 3) := by decide +kernel
theorem dX0_append_100 : decode cX0_append 100 = .ok (.return_, 1) := by decide +kernel
set_option maxRecDepth 20000 in
theorem ggX0_remove_X0_has : GoodIn wsX0_remove wsX0_has := goodIn_r _ [12, 1, 13, 14, 15] (by decide +kernel) (by decide +kernel)
set_option maxRecDepth 20000 in
theorem gX0_remove_X0_has : GoodIn wsX0_remove (wsV RX0 22 RX0 yX0_has wsX0_has) := goodIn_app (goodIn_of _ (by decide +kernel)) ggX0_remove_X0_has
theorem dX0_remove_0 : decode cX0_remove 0 = .ok (.aload_n 0, 1) := by decide +kernel
theorem dX0_remove_1 : decode cX0_remove 1 = .ok (.iload_n 1, 1) := by decide +kernel
theorem dX0_remove_2 : decode cX0_remove 2 = .ok (.invokevirtual 22, 3) := by decide +kernel
theorem dX0_remove_5 : decode cX0_remove 5 = .ok (.ifCond .ne 4, 3) := by decide +kernel
theorem dX0_remove_8 : decode cX0_remove 8 = .ok (.return_, 1) := by decide +kernel
theorem dX0_remove_9 : decode cX0_remove 9 = .ok (.aload_n 0, 1) := by decide +kernel
theorem dX0_remove_10 : decode cX0_remove 10 = .ok (.getfield 18, 3) := by decide +kernel
theorem dX0_remove_13 : decode cX0_remove 13 = .ok (.iload_n 1, 1) := by decide +kernel
theorem dX0_remove_14 : decode cX0_remove 14 = .ok (.isub, 1) := by decide +kernel
theorem dX0_remove_15 : decode cX0_remove 15 = .ok (.iconst 1, 1) := by decide +kernel
theorem dX0_remove_16 : decode cX0_remove 16 = .ok (.isub, 1) := by decide +kernel
theorem dX0_remove_17 : decode cX0_remove 17 = .ok (.istore_n 2, 1) := by decide +kernel
theorem dX0_remove_18 : decode cX0_remove 18 = .ok (.aload_n 0, 1) := by decide +kernel
theorem dX0_remove_19 : decode cX0_remove 19 = .ok (.getfield 9, 3) := by decide +kernel
theorem dX0_remove_22 : decode cX0_remove 22 = .ok (.iload_n 1, 1) := by decide +kernel
theorem dX0_remove_23 : decode cX0_remove 23 = .ok (.iconst 1, 1) := by decide +kernel
theorem dX0_remove_24 : decode cX0_remove 24 = .ok (.iadd, 1) := by decide +kernel
theorem dX0_remove_25 : decode cX0_remove 25 = .ok (.iconst 4, 1) := by decide +kernel
theorem dX0_remove_26 : decode cX0_remove 26 = .ok (.imul, 1) := by decide +kernel
theorem dX0_remove_27 : decode cX0_remove 27 = .ok (.aload_n 0, 1) := by decide +kernel
theorem dX0_remove_28 : decode cX0_remove 28 = .ok (.getfield 9, 3) := by decide +kernel
theorem dX0_remove_31 : decode cX0_remove 31 = .ok (.iload_n 1, 1) := by decide +kernel
theorem dX0_remove_32 : decode cX0_remove 32 = .ok (.iconst 4, 1) := by decide +kernel
theorem dX0_remove_33 : decode cX0_remove 33 = .ok (.imul, 1) := by decide +kernel
theorem dX0_remove_34 : decode cX0_remove 34 = .ok (.iload_n 2, 1) := by decide +kernel
theorem dX0_remove_35 : decode cX0_remove 35 = .ok (.iconst 4, 1) := by decide +kernel
theorem dX0_remove_36 : decode cX0_remove 36 = .ok (.imul, 1) := by decide +kernel
theorem dX0_remove_37 : decode cX0_remove 37 = .ok (.invokestatic 34, 3) := by decide +kernel
theorem dX0_remove_40 : decode cX0_remove 40 = .ok (.aload_n 0, 1) := by decide +kernel
theorem dX0_remove_41 : decode cX0_remove 41 = .ok (.getfield 15, 3) := by decide +kernel
theorem dX0_remove_44 : decode cX0_remove 44 = .ok (.iload_n 1, 1) := by decide +kernel
theorem dX0_remove_45 : decode cX0_remove 45 = .ok (.iconst 1, 1) := by decide +kernel
theorem dX0_remove_46 : decode cX0_remove 46 = .ok (.iadd, 1) := by decide +kernel
theorem dX0_remove_47 : decode cX0_remove 47 = .ok (.aload_n 0, 1) := by decide +kernel
theorem dX0_remove_48 : decode cX0_remove 48 = .ok (.getfield 15, 3) := by decide +kernel
theorem dX0_remove_51 : decode cX0_remove 51 = .ok (.iload_n 1, 1) := by decide +kernel
theorem dX0_remove_52 : decode cX0_remove 52 = .ok (.iload_n 2, 1) := by decide +kernel
theorem dX0_remove_53 : decode cX0_remove 53 = .ok (.invokestatic 34, 3) := by decide +kernel
theorem dX0_remove_56 : decode cX0_remove 56 = .ok (.aload_n 0, 1) := by decide +kernel
theorem dX0_remove_57 : decode cX0_remove 57 = .ok (.dup, 1) := by decide +kernel
theorem dX0_remove_58 : decode cX0_remove 58 = .ok (.getfield 18, 3) := by decide +kernel
theorem dX0_remove_61 : decode cX0_remove 61 = .ok (.iconst 1, 1) := by decide +kernel
theorem dX0_remove_62 : decode cX0_remove 62 = .ok (.isub, 1) := by decide +kernel
theorem dX0_remove_63 : decode cX0_remove 63 = .ok (.putfield 18, 3) := by decide +kernel
theorem dX0_remove_66 : decode cX0_remove 66 = .ok (.return_, 1) := by decide +kernel
theorem dX1_init_0 : decode cX1_init 0 = .ok (.aload_n 0, 1) := by decide +kernel
theorem dX1_init_1 : decode cX1_init 1 = .ok (.invokespecial 3, 3) := by decide +kernel
theorem dX1_init_4 : decode cX1_init 4 = .ok (.aload_n 0, 1) := by decide +kernel
theorem dX1_init_5 : decode cX1_init 5 = .ok (.bipush 24, 2) := by decide +kernel
theorem dX1_init_7 : decode cX1_init 7 = .ok (.newarray .int, 2) := by decide +kernel
theorem dX1_init_9 : decode cX1_init 9 = .ok (.putfield 9, 3) := by decide +kernel
theorem dX1_init_12 : decode cX1_init 12 = .ok (.return_, 1) := by decide +kernel
theorem dX1_size_0 : decode cX1_size 0 = .ok (.aload_n 0, 1) := by decide +kernel
theorem dX1_size_1 : decode cX1_size 1 = .ok (.getfield 15, 3) := by decide +kernel
theorem dX1_size_4 : decode cX1_size 4 = .ok (.ireturn, 1) := by decide +kernel
theorem dX1_isFull_0 : decode cX1_isFull 0 = .ok (.aload_n 0, 1) := by decide +kernel
theorem dX1_isFull_1 : decode cX1_isFull 1 = .ok (.getfield 15, 3) := by decide +kernel
theorem dX1_isFull_4 : decode cX1_isFull 4 = .ok (.bipush 24, 2) := by decide +kernel
theorem dX1_isFull_6 : decode cX1_isFull 6 = .ok (.if_icmp .lt 7, 3) := by decide +kernel
theorem dX1_isFull_9 : decode cX1_isFull 9 = .ok (.iconst 1, 1) := by decide +kernel
theorem dX1_isFull_10 : decode cX1_isFull 10 = .ok (.goto 4, 3) := by decide +kernel
theorem dX1_isFull_13 : decode cX1_isFull 13 = .ok (.iconst 0, 1) := by decide +kernel
theorem dX1_isFull_14 : decode cX1_isFull 14 = .ok (.ireturn, 1) := by decide +kernel
theorem dX1_has_0 : decode cX1_has 0 = .ok (.iload_n 1, 1) := by decide +kernel
theorem dX1_has_1 : decode cX1_has 1 = .ok (.ifCond .lt 15, 3) := by decide +kernel
theorem dX1_has_4 : decode cX1_has 4 = .ok (.iload_n 1, 1) := by decide +kernel
theorem dX1_has_5 : decode cX1_has 5 = .ok (.aload_n 0, 1) := by decide +kernel
theorem dX1_has_6 : decode cX1_has 6 = .ok (.getfield 15, 3) := by decide +kernel
theorem dX1_has_9 : decode cX1_has 9 = .ok (.if_icmp .ge 7, 3) := by decide +kernel
theorem dX1_has_12 : decode cX1_has 12 = .ok (.iconst 1, 1) := by decide +kernel
theorem dX1_has_13 : decode cX1_has 13 = .ok (.goto 4, 3) := by decide +kernel
theorem dX1_has_16 : decode cX1_has 16 = .ok (.iconst 0, 1) := by decide +kernel
theorem dX1_has_17 : decode cX1_has 17 = .ok (.ireturn, 1) := by decide +kernel
set_option maxRecDepth 20000 in
theorem ggX1_typeAt_X1_has : GoodIn wsX1_typeAt wsX1_has := goodIn_r _ [6, 7, 8, 9] (by decide +kernel) (by decide +kernel)
set_option maxRecDepth 20000 in
theorem gX1_typeAt_X1_has : GoodIn wsX1_typeAt (wsV RX1 19 RX1 yX1_has wsX1_has) := goodIn_app (goodIn_of _ (by decide +kernel)) ggX1_typeAt_X1_has
theorem dX1_typeAt_0 : decode cX1_typeAt 0 = .ok (.aload_n 0, 1) := by decide +kernel
theorem dX1_typeAt_1 : decode cX1_typeAt 1 = .ok (.iload_n 1, 1) := by decide +kernel
theorem dX1_typeAt_2 : decode cX1_typeAt 2 = .ok (.invokevirtual 19, 3) := by decide +kernel
theorem dX1_typeAt_5 : decode cX1_typeAt 5 = .ok (.ifCond .eq 12, 3) := by decide +kernel
theorem dX1_typeAt_8 : decode cX1_typeAt 8 = .ok (.aload_n 0, 1) := by decide +kernel
theorem dX1_typeAt_9 : decode cX1_typeAt 9 = .ok (.getfield 9, 3) := by decide +kernel
theorem dX1_typeAt_12 : decode cX1_typeAt 12 = .ok (.iload_n 1, 1) := by decide +kernel
theorem dX1_typeAt_13 : decode cX1_typeAt 13 = .ok (.iaload, 1) := by decide +kernel
theorem dX1_typeAt_14 : decode cX1_typeAt 14 = .ok (.goto 4, 3) := by decide +kernel
theorem dX1_typeAt_17 : decode cX1_typeAt 17 = .ok (.iconst (-1), 1) := by decide +kernel
theorem dX1_typeAt_18 : decode cX1_typeAt 18 = .ok (.ireturn, 1) := by decide +kernel
set_option maxRecDepth 20000 in
theorem ggX1_countOf_X1_typeAt : GoodIn wsX1_countOf wsX1_typeAt := goodIn_r _ [5, 6, 7, 8, 9, 4, 10, 11, 12, 13] (by decide +kernel) (by decide +kernel)
set_option maxRecDepth 20000 in
theorem gX1_countOf_X1_typeAt : GoodIn wsX1_countOf (wsV RX1 23 RX1 yX1_typeAt wsX1_typeAt) := goodIn_app (goodIn_of _ (by decide +kernel)) ggX1_countOf_X1_typeAt
theorem dX1_countOf_0 : decode cX1_countOf 0 = .ok (.aload_n 0, 1) := by decide +kernel
theorem dX1_countOf_1 : decode cX1_countOf 1 = .ok (.iload_n 1, 1) := by decide +kernel
theorem dX1_countOf_2 : decode cX1_countOf 2 = .ok (.invokevirtual 23, 3) := by decide +kernel
theorem dX1_countOf_5 : decode cX1_countOf 5 = .ok (.bipush 8, 2) := by decide +kernel
theorem dX1_countOf_7 : decode cX1_countOf 7 = .ok (.if_icmp .lt 7, 3) := by decide +kernel
theorem dX1_countOf_10 : decode cX1_countOf 10 = .ok (.iconst 2, 1) := by decide +kernel
theorem dX1_countOf_11 : decode cX1_countOf 11 = .ok (.goto 4, 3) := by decide +kernel
theorem dX1_countOf_14 : decode cX1_countOf 14 = .ok (.iconst 1, 1) := by decide +kernel
theorem dX1_countOf_15 : decode cX1_countOf 15 = .ok (.ireturn, 1) := by decide +kernel
set_option maxRecDepth 20000 in
theorem ggX1_countOfAll_X1_countOf : GoodIn wsX1_countOfAll wsX1_countOf := goodIn_r _ [6, 7, 8, 9, 5, 10, 11, 12, 13, 14, 15, 1, 16, 17] (by decide +kernel) (by decide +kernel)
set_option maxRecDepth 20000 in
theorem gX1_countOfAll_X1_countOf : GoodIn wsX1_countOfAll (wsV RX1 27 RX1 yX1_countOf wsX1_countOf) := goodIn_app (goodIn_of _ (by decide +kernel)) ggX1_countOfAll_X1_countOf
theorem dX1_countOfAll_0 : decode cX1_countOfAll 0 = .ok (.iconst 0, 1) := by decide +kernel
theorem dX1_countOfAll_1 : decode cX1_countOfAll 1 = .ok (.istore_n 1, 1) := by decide +kernel
theorem dX1_countOfAll_2 : decode cX1_countOfAll 2 = .ok (.iconst 0, 1) := by decide +kernel
theorem dX1_countOfAll_3 : decode cX1_countOfAll 3 = .ok (.istore_n 2, 1) := by decide +kernel
theorem dX1_countOfAll_4 : decode cX1_countOfAll 4 = .ok (.iload_n 2, 1) := by decide +kernel
theorem dX1_countOfAll_5 : decode cX1_countOfAll 5 = .ok (.aload_n 0, 1) := by decide +kernel
theorem dX1_countOfAll_6 : decode cX1_countOfAll 6 = .ok (.getfield 15, 3) := by decide +kernel
theorem dX1_countOfAll_9 : decode cX1_countOfAll 9 = .ok (.if_icmp .ge 17, 3) := by decide +kernel
theorem dX1_countOfAll_12 : decode cX1_countOfAll 12 = .ok (.iload_n 1, 1) := by decide +kernel
theorem dX1_countOfAll_13 : decode cX1_countOfAll 13 = .ok (.aload_n 0, 1) := by decide +kernel
theorem dX1_countOfAll_14 : decode cX1_countOfAll 14 = .ok (.iload_n 2, 1) := by decide +kernel
theorem dX1_countOfAll_15 : decode cX1_countOfAll 15 = .ok (.invokevirtual 27, 3) := by decide +kernel
theorem dX1_countOfAll_18 : decode cX1_countOfAll 18 = .ok (.iadd, 1) := by decide +kernel
theorem dX1_countOfAll_19 : decode cX1_countOfAll 19 = .ok (.istore_n 1, 1) := by decide +kernel
theorem dX1_countOfAll_20 : decode cX1_countOfAll 20 = .ok (.iinc 2 1, 3) := by decide +kernel
theorem dX1_countOfAll_23 : decode cX1_countOfAll 23 = .ok (.goto (-19), 3) := by decide +kernel
theorem dX1_countOfAll_26 : decode cX1_countOfAll 26 = .ok (.iload_n 1, 1) := by decide +kernel
theorem dX1_countOfAll_27 : decode cX1_countOfAll 27 = .ok (.ireturn, 1) := by decide +kernel
set_option maxRecDepth 20000 in
theorem ggX1_hasSameWords_X1_has : GoodIn wsX1_hasSameWords wsX1_has := goodIn_r _ [5, 6, 12, 13] (by decide +kernel) (by decide +kernel)
set_option maxRecDepth 20000 in
theorem gX1_hasSameWords_X1_has : GoodIn wsX1_hasSameWords (wsV RX1 19 RX1 yX1_has wsX1_has) := goodIn_app (goodIn_of _ (by decide +kernel)) ggX1_hasSameWords_X1_has
set_option maxRecDepth 20000 in
theorem ggX1_hasSameWords_X1_typeAt : GoodIn wsX1_hasSameWords wsX1_typeAt := goodIn_r _ [10, 11, 1, 2, 3, 4, 5, 6, 12, 13] (by decide +kernel) (by decide +kernel)
set_option maxRecDepth 20000 in
theorem gX1_hasSameWords_X1_typeAt : GoodIn wsX1_hasSameWords (wsV RX1 23 RX1 yX1_typeAt wsX1_typeAt) := goodIn_app (goodIn_of _ (by decide +kernel)) ggX1_hasSameWords_X1_typeAt
theorem dX1_hasSameWords_0 : decode cX1_hasSameWords 0 = .ok (.aload_n 0, 1) := by decide +kernel
theorem dX1_hasSameWords_1 : decode cX1_hasSameWords 1 = .ok (.iload_n 1, 1) := by decide +kernel
theorem dX1_hasSameWords_2 : decode cX1_hasSameWords 2 = .ok (.iload_n 3, 1) := by decide +kernel
theorem dX1_hasSameWords_3 : decode cX1_hasSameWords 3 = .ok (.iadd, 1) := by decide +kernel
theorem dX1_hasSameWords_4 : decode cX1_hasSameWords 4 = .ok (.iconst 1, 1) := by decide +kernel
theorem dX1_hasSameWords_5 : decode cX1_hasSameWords 5 = .ok (.isub, 1) := by decide +kernel
theorem dX1_hasSameWords_6 : decode cX1_hasSameWords 6 = .ok (.invokevirtual 19, 3) := by decide +kernel
theorem dX1_hasSameWords_9 : decode cX1_hasSameWords 9 = .ok (.ifCond .eq 15, 3) := by decide +kernel
theorem dX1_hasSameWords_12 : decode cX1_hasSameWords 12 = .ok (.aload_n 0, 1) := by decide +kernel
theorem dX1_hasSameWords_13 : decode cX1_hasSameWords 13 = .ok (.iload_n 2, 1) := by decide +kernel
theorem dX1_hasSameWords_14 : decode cX1_hasSameWords 14 = .ok (.iload_n 3, 1) := by decide +kernel
theorem dX1_hasSameWords_15 : decode cX1_hasSameWords 15 = .ok (.iadd, 1) := by decide +kernel
theorem dX1_hasSameWords_16 : decode cX1_hasSameWords 16 = .ok (.iconst 1, 1) := by decide +kernel
theorem dX1_hasSameWords_17 : decode cX1_hasSameWords 17 = .ok (.isub, 1) := by decide +kernel
theorem dX1_hasSameWords_18 : decode cX1_hasSameWords 18 = .ok (.invokevirtual 19, 3) := by decide +kernel
theorem dX1_hasSameWords_21 : decode cX1_hasSameWords 21 = .ok (.ifCond .ne 5, 3) := by decide +kernel
theorem dX1_hasSameWords_24 : decode cX1_hasSameWords 24 = .ok (.iconst 0, 1) := by decide +kernel
theorem dX1_hasSameWords_25 : decode cX1_hasSameWords 25 = .ok (.ireturn, 1) := by decide +kernel
theorem dX1_hasSameWords_26 : decode cX1_hasSameWords 26 = .ok (.iconst 0, 1) := by decide +kernel
theorem dX1_hasSameWords_27 : decode cX1_hasSameWords 27 = .ok (.istore 4, 2) := by decide +kernel
theorem dX1_hasSameWords_29 : decode cX1_hasSameWords 29 = .ok (.iload 4, 2) := by decide +kernel
theorem dX1_hasSameWords_31 : decode cX1_hasSameWords 31 = .ok (.iload_n 3, 1) := by decide +kernel
theorem dX1_hasSameWords_32 : decode cX1_hasSameWords 32 = .ok (.if_icmp .ge 30, 3) := by decide +kernel
theorem dX1_hasSameWords_35 : decode cX1_hasSameWords 35 = .ok (.aload_n 0, 1) := by decide +kernel
theorem dX1_hasSameWords_36 : decode cX1_hasSameWords 36 = .ok (.iload_n 1, 1) := by decide +kernel
theorem dX1_hasSameWords_37 : decode cX1_hasSameWords 37 = .ok (.iload 4, 2) := by decide +kernel
theorem dX1_hasSameWords_39 : decode cX1_hasSameWords 39 = .ok (.iadd, 1) := by decide +kernel
theorem dX1_hasSameWords_40 : decode cX1_hasSameWords 40 = .ok (.invokevirtual 23, 3) := by decide +kernel
theorem dX1_hasSameWords_43 : decode cX1_hasSameWords 43 = .ok (.aload_n 0, 1) := by decide +kernel
theorem dX1_hasSameWords_44 : decode cX1_hasSameWords 44 = .ok (.iload_n 2, 1) := by decide +kernel
theorem dX1_hasSameWords_45 : decode cX1_hasSameWords 45 = .ok (.iload 4, 2) := by decide +kernel
theorem dX1_hasSameWords_47 : decode cX1_hasSameWords 47 = .ok (.iadd, 1) := by decide +kernel
theorem dX1_hasSameWords_48 : decode cX1_hasSameWords 48 = .ok (.invokevirtual 23, 3) := by decide +kernel
theorem dX1_hasSameWords_51 : decode cX1_hasSameWords 51 = .ok (.if_icmp .eq 5, 3) := by decide +kernel
theorem dX1_hasSameWords_54 : decode cX1_hasSameWords 54 = .ok (.iconst 0, 1) := by decide +kernel
theorem dX1_hasSameWords_55 : decode cX1_hasSameWords 55 = .ok (.ireturn, 1) := by decide +kernel
theorem dX1_hasSameWords_56 : decode cX1_hasSameWords 56 = .ok (.iinc 4 1, 3) := by decide +kernel
theorem dX1_hasSameWords_59 : decode cX1_hasSameWords 59 = .ok (.goto (-30), 3) := by decide +kernel
theorem dX1_hasSameWords_62 : decode cX1_hasSameWords 62 = .ok (.iconst 1, 1) := by decide +kernel
theorem dX1_hasSameWords_63 : decode cX1_hasSameWords 63 = .ok (.ireturn, 1) := by decide +kernel
set_option maxRecDepth 20000 in
theorem ggX1_hasWordsOf_X0_wordsIn : GoodIn wsX1_hasWordsOf wsX0_wordsIn := goodIn_r _ [5, 6, 7, 8, 9, 4, 10, 11, 28, 29, 30] (by decide +kernel) (by decide +kernel)
set_option maxRecDepth 20000 in
theorem gX1_hasWordsOf_X0_wordsIn : GoodIn wsX1_hasWordsOf (wsV RX1 30 RX0 yX0_wordsIn wsX0_wordsIn) := goodIn_app (goodIn_of _ (by decide +kernel)) ggX1_hasWordsOf_X0_wordsIn
set_option maxRecDepth 20000 in
theorem ggX1_hasWordsOf_X1_has : GoodIn wsX1_hasWordsOf wsX1_has := goodIn_r _ [16, 17, 31, 32] (by decide +kernel) (by decide +kernel)
set_option maxRecDepth 20000 in
theorem gX1_hasWordsOf_X1_has : GoodIn wsX1_hasWordsOf (wsV RX1 19 RX1 yX1_has wsX1_has) := goodIn_app (goodIn_of _ (by decide +kernel)) ggX1_hasWordsOf_X1_has
set_option maxRecDepth 20000 in
theorem ggX1_hasWordsOf_X1_typeAt : GoodIn wsX1_hasWordsOf wsX1_typeAt := goodIn_r _ [21, 22, 12, 13, 14, 15, 16, 17, 31, 32] (by decide +kernel) (by decide +kernel)
set_option maxRecDepth 20000 in
theorem gX1_hasWordsOf_X1_typeAt : GoodIn wsX1_hasWordsOf (wsV RX1 23 RX1 yX1_typeAt wsX1_typeAt) := goodIn_app (goodIn_of _ (by decide +kernel)) ggX1_hasWordsOf_X1_typeAt
set_option maxRecDepth 20000 in
theorem ggX1_hasWordsOf_X0_typeIn : GoodIn wsX1_hasWordsOf wsX0_typeIn := goodIn_r _ [26, 27, 7, 8, 9, 4, 10, 11, 28, 29, 30] (by decide +kernel) (by decide +kernel)
set_option maxRecDepth 20000 in
theorem gX1_hasWordsOf_X0_typeIn : GoodIn wsX1_hasWordsOf (wsV RX1 35 RX0 yX0_typeIn wsX0_typeIn) := goodIn_app (goodIn_of _ (by decide +kernel)) ggX1_hasWordsOf_X0_typeIn
theorem dX1_hasWordsOf_0 : decode cX1_hasWordsOf 0 = .ok (.aload_n 1, 1) := by decide +kernel
theorem dX1_hasWordsOf_1 : decode cX1_hasWordsOf 1 = .ok (.iload_n 2, 1) := by decide +kernel
theorem dX1_hasWordsOf_2 : decode cX1_hasWordsOf 2 = .ok (.invokevirtual 30, 3) := by decide +kernel
theorem dX1_hasWordsOf_5 : decode cX1_hasWordsOf 5 = .ok (.istore 4, 2) := by decide +kernel
theorem dX1_hasWordsOf_7 : decode cX1_hasWordsOf 7 = .ok (.iload 4, 2) := by decide +kernel
theorem dX1_hasWordsOf_9 : decode cX1_hasWordsOf 9 = .ok (.ifCond .eq 16, 3) := by decide +kernel
theorem dX1_hasWordsOf_12 : decode cX1_hasWordsOf 12 = .ok (.aload_n 0, 1) := by decide +kernel
theorem dX1_hasWordsOf_13 : decode cX1_hasWordsOf 13 = .ok (.iload_n 3, 1) := by decide +kernel
theorem dX1_hasWordsOf_14 : decode cX1_hasWordsOf 14 = .ok (.iload 4, 2) := by decide +kernel
theorem dX1_hasWordsOf_16 : decode cX1_hasWordsOf 16 = .ok (.iadd, 1) := by decide +kernel
theorem dX1_hasWordsOf_17 : decode cX1_hasWordsOf 17 = .ok (.iconst 1, 1) := by decide +kernel
theorem dX1_hasWordsOf_18 : decode cX1_hasWordsOf 18 = .ok (.isub, 1) := by decide +kernel
theorem dX1_hasWordsOf_19 : decode cX1_hasWordsOf 19 = .ok (.invokevirtual 19, 3) := by decide +kernel
theorem dX1_hasWordsOf_22 : decode cX1_hasWordsOf 22 = .ok (.ifCond .ne 5, 3) := by decide +kernel
theorem dX1_hasWordsOf_25 : decode cX1_hasWordsOf 25 = .ok (.iconst 0, 1) := by decide +kernel
theorem dX1_hasWordsOf_26 : decode cX1_hasWordsOf 26 = .ok (.ireturn, 1) := by decide +kernel
theorem dX1_hasWordsOf_27 : decode cX1_hasWordsOf 27 = .ok (.iconst 0, 1) := by decide +kernel
theorem dX1_hasWordsOf_28 : decode cX1_hasWordsOf 28 = .ok (.istore 5, 2) := by decide +kernel
theorem dX1_hasWordsOf_30 : decode cX1_hasWordsOf 30 = .ok (.iload 5, 2) := by decide +kernel
theorem dX1_hasWordsOf_32 : decode cX1_hasWordsOf 32 = .ok (.iload 4, 2) := by decide +kernel
theorem dX1_hasWordsOf_34 : decode cX1_hasWordsOf 34 = .ok (.if_icmp .ge 29, 3) := by decide +kernel
theorem dX1_hasWordsOf_37 : decode cX1_hasWordsOf 37 = .ok (.aload_n 0, 1) := by decide +kernel
theorem dX1_hasWordsOf_38 : decode cX1_hasWordsOf 38 = .ok (.iload_n 3, 1) := by decide +kernel
theorem dX1_hasWordsOf_39 : decode cX1_hasWordsOf 39 = .ok (.iload 5, 2) := by decide +kernel
theorem dX1_hasWordsOf_41 : decode cX1_hasWordsOf 41 = .ok (.iadd, 1) := by decide +kernel
theorem dX1_hasWordsOf_42 : decode cX1_hasWordsOf 42 = .ok (.invokevirtual 23, 3) := by decide +kernel
theorem dX1_hasWordsOf_45 : decode cX1_hasWordsOf 45 = .ok (.aload_n 1, 1) := by decide +kernel
theorem dX1_hasWordsOf_46 : decode cX1_hasWordsOf 46 = .ok (.iload_n 2, 1) := by decide +kernel
theorem dX1_hasWordsOf_47 : decode cX1_hasWordsOf 47 = .ok (.iload 5, 2) := by decide +kernel
theorem dX1_hasWordsOf_49 : decode cX1_hasWordsOf 49 = .ok (.invokevirtual 35, 3) := by decide +kernel
theorem dX1_hasWordsOf_52 : decode cX1_hasWordsOf 52 = .ok (.if_icmp .eq 5, 3) := by decide +kernel
theorem dX1_hasWordsOf_55 : decode cX1_hasWordsOf 55 = .ok (.iconst 0, 1) := by decide +kernel
theorem dX1_hasWordsOf_56 : decode cX1_hasWordsOf 56 = .ok (.ireturn, 1) := by decide +kernel
theorem dX1_hasWordsOf_57 : decode cX1_hasWordsOf 57 = .ok (.iinc 5 1, 3) := by decide +kernel
theorem dX1_hasWordsOf_60 : decode cX1_hasWordsOf 60 = .ok (.goto (-30), 3) := by decide +kernel
theorem dX1_hasWordsOf_63 : decode cX1_hasWordsOf 63 = .ok (.iconst 1, 1) := by decide +kernel
theorem dX1_hasWordsOf_64 : decode cX1_hasWordsOf 64 = .ok (.ireturn, 1) := by decide +kernel
set_option maxRecDepth 20000 in
theorem ggX1_append_X1_isFull : GoodIn wsX1_append wsX1_isFull := goodIn_r _ [7, 2, 8, 9] (by decide +kernel) (by decide +kernel)
set_option maxRecDepth 20000 in
theorem gX1_append_X1_isFull : GoodIn wsX1_append (wsV RX1 39 RX1 yX1_isFull wsX1_isFull) := goodIn_app (goodIn_of _ (by decide +kernel)) ggX1_append_X1_isFull
theorem dX1_append_0 : decode cX1_append 0 = .ok (.aload_n 0, 1) := by decide +kernel
theorem dX1_append_1 : decode cX1_append 1 = .ok (.invokevirtual 39, 3) := by decide +kernel
theorem dX1_append_4 : decode cX1_append 4 = .ok (.ifCond .eq 4, 3) := by decide +kernel
theorem dX1_append_7 : decode cX1_append 7 = .ok (.return_, 1) := by decide +kernel
theorem dX1_append_8 : decode cX1_append 8 = .ok (.aload_n 0, 1) := by decide +kernel
theorem dX1_append_9 : decode cX1_append 9 = .ok (.getfield 9, 3) := by decide +kernel
theorem dX1_append_12 : decode cX1_append 12 = .ok (.aload_n 0, 1) := by decide +kernel
theorem dX1_append_13 : decode cX1_append 13 = .ok (.getfield 15, 3) := by decide +kernel
theorem dX1_append_16 : decode cX1_append 16 = .ok (.iload_n 1, 1) := by decide +kernel
theorem dX1_append_17 : decode cX1_append 17 = .ok (.iastore, 1) := by decide +kernel
theorem dX1_append_18 : decode cX1_append 18 = .ok (.aload_n 0, 1) := by decide +kernel
theorem dX1_append_19 : decode cX1_append 19 = .ok (.dup, 1) := by decide +kernel
theorem dX1_append_20 : decode cX1_append 20 = .ok (.getfield 15, 3) := by decide +kernel
theorem dX1_append_23 : decode cX1_append 23 = .ok (.iconst 1, 1) := by decide +kernel
theorem dX1_append_24 : decode cX1_append 24 = .ok (.iadd, 1) := by decide +kernel
theorem dX1_append_25 : decode cX1_append 25 = .ok (.putfield 15, 3) := by decide +kernel
theorem dX1_append_28 : decode cX1_append 28 = .ok (.return_, 1) := by decide +kernel
theorem dX1_removeLast_0 : decode cX1_removeLast 0 = .ok (.aload_n 0, 1) := by decide +kernel
theorem dX1_removeLast_1 : decode cX1_removeLast 1 = .ok (.iconst 0, 1) := by decide +kernel
theorem dX1_removeLast_2 : decode cX1_removeLast 2 = .ok (.aload_n 0, 1) := by decide +kernel
theorem dX1_removeLast_3 : decode cX1_removeLast 3 = .ok (.getfield 15, 3) := by decide +kernel
theorem dX1_removeLast_6 : decode cX1_removeLast 6 = .ok (.iconst 1, 1) := by decide +kernel
theorem dX1_removeLast_7 : decode cX1_removeLast 7 = .ok (.isub, 1) := by decide +kernel
theorem dX1_removeLast_8 : decode cX1_removeLast 8 = .ok (.invokestatic 43, 3) := by decide +kernel
theorem dX1_removeLast_11 : decode cX1_removeLast 11 = .ok (.putfield 15, 3) := by decide +kernel
theorem dX1_removeLast_14 : decode cX1_removeLast 14 = .ok (.return_, 1) := by decide +kernel
theorem dX1_removeAll_0 : decode cX1_removeAll 0 = .ok (.aload_n 0, 1) := by decide +kernel
theorem dX1_removeAll_1 : decode cX1_removeAll 1 = .ok (.iconst 0, 1) := by decide +kernel
theorem dX1_removeAll_2 : decode cX1_removeAll 2 = .ok (.putfield 15, 3) := by decide +kernel
theorem dX1_removeAll_5 : decode cX1_removeAll 5 = .ok (.return_, 1) := by decide +kernel
theorem dX2_init_0 : decode cX2_init 0 = .ok (.aload_n 0, 1) := by decide +kernel
theorem dX2_init_1 : decode cX2_init 1 = .ok (.invokespecial 3, 3) := by decide +kernel
theorem dX2_init_4 : decode cX2_init 4 = .ok (.aload_n 0, 1) := by decide +kernel
theorem dX2_init_5 : decode cX2_init 5 = .ok (.bipush 25, 2) := by decide +kernel
theorem dX2_init_7 : decode cX2_init 7 = .ok (.newarray .int, 2) := by decide +kernel
theorem dX2_init_9 : decode cX2_init 9 = .ok (.putfield 9, 3) := by decide +kernel
theorem dX2_init_12 : decode cX2_init 12 = .ok (.aload_n 0, 1) := by decide +kernel
theorem dX2_init_13 : decode cX2_init 13 = .ok (.bipush 24, 2) := by decide +kernel
theorem dX2_init_15 : decode cX2_init 15 = .ok (.newarray .int, 2) := by decide +kernel
theorem dX2_init_17 : decode cX2_init 17 = .ok (.putfield 15, 3) := by decide +kernel
theorem dX2_init_20 : decode cX2_init 20 = .ok (.aload_n 0, 1) := by decide +kernel
theorem dX2_init_21 : decode cX2_init 21 = .ok (.bipush 24, 2) := by decide +kernel
theorem dX2_init_23 : decode cX2_init 23 = .ok (.newarray .int, 2) := by decide +kernel
theorem dX2_init_25 : decode cX2_init 25 = .ok (.putfield 18, 3) := by decide +kernel
theorem dX2_init_28 : decode cX2_init 28 = .ok (.aload_n 0, 1) := by decide +kernel
theorem dX2_init_29 : decode cX2_init 29 = .ok (.bipush 24, 2) := by decide +kernel
theorem dX2_init_31 : decode cX2_init 31 = .ok (.newarray .int, 2) := by decide +kernel
theorem dX2_init_33 : decode cX2_init 33 = .ok (.putfield 21, 3) := by decide +kernel
theorem dX2_init_36 : decode cX2_init 36 = .ok (.return_, 1) := by decide +kernel
theorem dX2_size_0 : decode cX2_size 0 = .ok (.aload_n 0, 1) := by decide +kernel
theorem dX2_size_1 : decode cX2_size 1 = .ok (.getfield 24, 3) := by decide +kernel
theorem dX2_size_4 : decode cX2_size 4 = .ok (.ireturn, 1) := by decide +kernel
theorem dX2_has_0 : decode cX2_has 0 = .ok (.iload_n 1, 1) := by decide +kernel
theorem dX2_has_1 : decode cX2_has 1 = .ok (.ifCond .lt 15, 3) := by decide +kernel
theorem dX2_has_4 : decode cX2_has 4 = .ok (.iload_n 1, 1) := by decide +kernel
theorem dX2_has_5 : decode cX2_has 5 = .ok (.aload_n 0, 1) := by decide +kernel
theorem dX2_has_6 : decode cX2_has 6 = .ok (.getfield 24, 3) := by decide +kernel
theorem dX2_has_9 : decode cX2_has 9 = .ok (.if_icmp .ge 7, 3) := by decide +kernel
theorem dX2_has_12 : decode cX2_has 12 = .ok (.iconst 1, 1) := by decide +kernel
theorem dX2_has_13 : decode cX2_has 13 = .ok (.goto 4, 3) := by decide +kernel
theorem dX2_has_16 : decode cX2_has 16 = .ok (.iconst 0, 1) := by decide +kernel
theorem dX2_has_17 : decode cX2_has 17 = .ok (.ireturn, 1) := by decide +kernel
set_option maxRecDepth 20000 in
theorem ggX2_startAt_X2_has : GoodIn wsX2_startAt wsX2_has := goodIn_r _ [6, 7, 8, 9, 10, 11, 12] (by decide +kernel) (by decide +kernel)
set_option maxRecDepth 20000 in
theorem gX2_startAt_X2_has : GoodIn wsX2_startAt (wsV RX2 28 RX2 yX2_has wsX2_has) := goodIn_app (goodIn_of _ (by decide +kernel)) ggX2_startAt_X2_has
theorem dX2_startAt_0 : decode cX2_startAt 0 = .ok (.aload_n 0, 1) := by decide +kernel
theorem dX2_startAt_1 : decode cX2_startAt 1 = .ok (.iload_n 1, 1) := by decide +kernel
theorem dX2_startAt_2 : decode cX2_startAt 2 = .ok (.invokevirtual 28, 3) := by decide +kernel
theorem dX2_startAt_5 : decode cX2_startAt 5 = .ok (.ifCond .eq 12, 3) := by decide +kernel
theorem dX2_startAt_8 : decode cX2_startAt 8 = .ok (.aload_n 0, 1) := by decide +kernel
theorem dX2_startAt_9 : decode cX2_startAt 9 = .ok (.getfield 21, 3) := by decide +kernel
theorem dX2_startAt_12 : decode cX2_startAt 12 = .ok (.iload_n 1, 1) := by decide +kernel
theorem dX2_startAt_13 : decode cX2_startAt 13 = .ok (.iaload, 1) := by decide +kernel
theorem dX2_startAt_14 : decode cX2_startAt 14 = .ok (.goto 4, 3) := by decide +kernel
theorem dX2_startAt_17 : decode cX2_startAt 17 = .ok (.iconst (-1), 1) := by decide +kernel
theorem dX2_startAt_18 : decode cX2_startAt 18 = .ok (.ireturn, 1) := by decide +kernel
set_option maxRecDepth 20000 in
theorem ggX2_codeAt_X2_has : GoodIn wsX2_codeAt wsX2_has := goodIn_r _ [7, 8, 9, 10, 11, 12, 13] (by decide +kernel) (by decide +kernel)
set_option maxRecDepth 20000 in
theorem gX2_codeAt_X2_has : GoodIn wsX2_codeAt (wsV RX2 28 RX2 yX2_has wsX2_has) := goodIn_app (goodIn_of _ (by decide +kernel)) ggX2_codeAt_X2_has
theorem dX2_codeAt_0 : decode cX2_codeAt 0 = .ok (.aload_n 0, 1) := by decide +kernel
theorem dX2_codeAt_1 : decode cX2_codeAt 1 = .ok (.iload_n 1, 1) := by decide +kernel
theorem dX2_codeAt_2 : decode cX2_codeAt 2 = .ok (.invokevirtual 28, 3) := by decide +kernel
theorem dX2_codeAt_5 : decode cX2_codeAt 5 = .ok (.ifCond .eq 17, 3) := by decide +kernel
theorem dX2_codeAt_8 : decode cX2_codeAt 8 = .ok (.aload_n 0, 1) := by decide +kernel
theorem dX2_codeAt_9 : decode cX2_codeAt 9 = .ok (.getfield 18, 3) := by decide +kernel
theorem dX2_codeAt_12 : decode cX2_codeAt 12 = .ok (.aload_n 0, 1) := by decide +kernel
theorem dX2_codeAt_13 : decode cX2_codeAt 13 = .ok (.getfield 21, 3) := by decide +kernel
theorem dX2_codeAt_16 : decode cX2_codeAt 16 = .ok (.iload_n 1, 1) := by decide +kernel
theorem dX2_codeAt_17 : decode cX2_codeAt 17 = .ok (.iaload, 1) := by decide +kernel
theorem dX2_codeAt_18 : decode cX2_codeAt 18 = .ok (.iaload, 1) := by decide +kernel
theorem dX2_codeAt_19 : decode cX2_codeAt 19 = .ok (.goto 4, 3) := by decide +kernel
theorem dX2_codeAt_22 : decode cX2_codeAt 22 = .ok (.iconst (-1), 1) := by decide +kernel
theorem dX2_codeAt_23 : decode cX2_codeAt 23 = .ok (.ireturn, 1) := by decide +kernel
set_option maxRecDepth 20000 in
theorem ggX2_groupsWith_X2_codeAt : GoodIn wsX2_groupsWith wsX2_codeAt := goodIn_r _ [6, 7, 8, 9, 10, 11, 5, 12, 1, 13, 14, 15, 16, 17] (by decide +kernel) (by decide +kernel)
set_option maxRecDepth 20000 in
theorem gX2_groupsWith_X2_codeAt : GoodIn wsX2_groupsWith (wsV RX2 32 RX2 yX2_codeAt wsX2_codeAt) := goodIn_app (goodIn_of _ (by decide +kernel)) ggX2_groupsWith_X2_codeAt
theorem dX2_groupsWith_0 : decode cX2_groupsWith 0 = .ok (.iconst 0, 1) := by decide +kernel
theorem dX2_groupsWith_1 : decode cX2_groupsWith 1 = .ok (.istore_n 2, 1) := by decide +kernel
theorem dX2_groupsWith_2 : decode cX2_groupsWith 2 = .ok (.iconst 0, 1) := by decide +kernel
theorem dX2_groupsWith_3 : decode cX2_groupsWith 3 = .ok (.istore_n 3, 1) := by decide +kernel
theorem dX2_groupsWith_4 : decode cX2_groupsWith 4 = .ok (.iload_n 3, 1) := by decide +kernel
theorem dX2_groupsWith_5 : decode cX2_groupsWith 5 = .ok (.aload_n 0, 1) := by decide +kernel
theorem dX2_groupsWith_6 : decode cX2_groupsWith 6 = .ok (.getfield 24, 3) := by decide +kernel
theorem dX2_groupsWith_9 : decode cX2_groupsWith 9 = .ok (.if_icmp .ge 21, 3) := by decide +kernel
theorem dX2_groupsWith_12 : decode cX2_groupsWith 12 = .ok (.aload_n 0, 1) := by decide +kernel
theorem dX2_groupsWith_13 : decode cX2_groupsWith 13 = .ok (.iload_n 3, 1) := by decide +kernel
theorem dX2_groupsWith_14 : decode cX2_groupsWith 14 = .ok (.invokevirtual 32, 3) := by decide +kernel
theorem dX2_groupsWith_17 : decode cX2_groupsWith 17 = .ok (.iload_n 1, 1) := by decide +kernel
theorem dX2_groupsWith_18 : decode cX2_groupsWith 18 = .ok (.if_icmp .ne 6, 3) := by decide +kernel
theorem dX2_groupsWith_21 : decode cX2_groupsWith 21 = .ok (.iinc 2 1, 3) := by decide +kernel
theorem dX2_groupsWith_24 : decode cX2_groupsWith 24 = .ok (.iinc 3 1, 3) := by decide +kernel
theorem dX2_groupsWith_27 : decode cX2_groupsWith 27 = .ok (.goto (-23), 3) := by decide +kernel
theorem dX2_groupsWith_30 : decode cX2_groupsWith 30 = .ok (.iload_n 2, 1) := by decide +kernel
theorem dX2_groupsWith_31 : decode cX2_groupsWith 31 = .ok (.ireturn, 1) := by decide +kernel
set_option maxRecDepth 20000 in
theorem ggX2_partAsIs_X2_part : GoodIn wsX2_partAsIs wsX2_part := goodIn_r _ [5, 6, 7, 8, 9, 10, 11, 12, 13, 14, 15, 16, 17, 18, 19, 4, 20, 21, 22, 23, 24, 25, 26, 27, 28, 29, 30, 31, 32, 33, 34, 35, 36, 37, 38, 39, 40, 41, 42, 43, 44, 45, 46, 47, 48, 49, 50, 51, 52, 53, 54, 55, 56, 57, 58, 59, 60, 61, 62, 63, 64, 65, 66, 67, 68, 69, 70, 71, 72, 73, 74, 75, 76, 77, 78, 79, 80] (by decide +kernel) (by decide +kernel)
set_option maxRecDepth 20000 in
theorem gX2_partAsIs_X2_part : GoodIn wsX2_partAsIs (wsV RX2 36 RX2 yX2_part wsX2_part) := goodIn_app (goodIn_of _ (by decide +kernel)) ggX2_partAsIs_X2_part
theorem dX2_partAsIs_0 : decode cX2_partAsIs 0 = .ok (.aload_n 0, 1) := by decide +kernel
theorem dX2_partAsIs_1 : decode cX2_partAsIs 1 = .ok (.aload_n 1, 1) := by decide +kernel
theorem dX2_partAsIs_2 : decode cX2_partAsIs 2 = .ok (.aload_n 2, 1) := by decide +kernel
theorem dX2_partAsIs_3 : decode cX2_partAsIs 3 = .ok (.iconst (-1), 1) := by decide +kernel
theorem dX2_partAsIs_4 : decode cX2_partAsIs 4 = .ok (.iconst 0, 1) := by decide +kernel
theorem dX2_partAsIs_5 : decode cX2_partAsIs 5 = .ok (.iconst 0, 1) := by decide +kernel
theorem dX2_partAsIs_6 : decode cX2_partAsIs 6 = .ok (.invokevirtual 36, 3) := by decide +kernel
theorem dX2_partAsIs_9 : decode cX2_partAsIs 9 = .ok (.return_, 1) := by decide +kernel
set_option maxRecDepth 20000 in
theorem ggX2_partWithout_X2_part : GoodIn wsX2_partWithout wsX2_part := goodIn_r _ [5, 6, 7, 8, 9, 10, 11, 12, 13, 14, 15, 16, 17, 18, 19, 4, 20, 21, 22, 23, 24, 25, 26, 27, 28, 29, 30, 31, 32, 33, 34, 35, 36, 37, 38, 39, 40, 41, 42, 43, 44, 45, 46, 47, 48, 49, 50, 51, 52, 53, 54, 55, 56, 57, 58, 59, 60, 61, 62, 63, 64, 65, 66, 67, 68, 69, 70, 71, 72, 73, 74, 75, 76, 77, 78, 79, 80] (by decide +kernel) (by decide +kernel)
set_option maxRecDepth 20000 in
theorem gX2_partWithout_X2_part : GoodIn wsX2_partWithout (wsV RX2 36 RX2 yX2_part wsX2_part) := goodIn_app (goodIn_of _ (by decide +kernel)) ggX2_partWithout_X2_part
theorem dX2_partWithout_0 : decode cX2_partWithout 0 = .ok (.aload_n 0, 1) := by decide +kernel
theorem dX2_partWithout_1 : decode cX2_partWithout 1 = .ok (.aload_n 1, 1) := by decide +kernel
theorem dX2_partWithout_2 : decode cX2_partWithout 2 = .ok (.aload_n 2, 1) := by decide +kernel
theorem dX2_partWithout_3 : decode cX2_partWithout 3 = .ok (.iload_n 3, 1) := by decide +kernel
theorem dX2_partWithout_4 : decode cX2_partWithout 4 = .ok (.iconst 0, 1) := by decide +kernel
theorem dX2_partWithout_5 : decode cX2_partWithout 5 = .ok (.iconst 0, 1) := by decide +kernel
theorem dX2_partWithout_6 : decode cX2_partWithout 6 = .ok (.invokevirtual 36, 3) := by decide +kernel
theorem dX2_partWithout_9 : decode cX2_partWithout 9 = .ok (.return_, 1) := by decide +kernel
set_option maxRecDepth 20000 in
theorem ggX2_partWithNew_X2_part : GoodIn wsX2_partWithNew wsX2_part := goodIn_r _ [5, 6, 7, 8, 9, 10, 11, 12, 13, 14, 15, 16, 17, 18, 19, 4, 20, 21, 22, 23, 24, 25, 26, 27, 28, 29, 30, 31, 32, 33, 34, 35, 36, 37, 38, 39, 40, 41, 42, 43, 44, 45, 46, 47, 48, 49, 50, 51, 52, 53, 54, 55, 56, 57, 58, 59, 60, 61, 62, 63, 64, 65, 66, 67, 68, 69, 70, 71, 72, 73, 74, 75, 76, 77, 78, 79, 80] (by decide +kernel) (by decide +kernel)
set_option maxRecDepth 20000 in
theorem gX2_partWithNew_X2_part : GoodIn wsX2_partWithNew (wsV RX2 36 RX2 yX2_part wsX2_part) := goodIn_app (goodIn_of _ (by decide +kernel)) ggX2_partWithNew_X2_part
theorem dX2_partWithNew_0 : decode cX2_partWithNew 0 = .ok (.aload_n 0, 1) := by decide +kernel
theorem dX2_partWithNew_1 : decode cX2_partWithNew 1 = .ok (.aload_n 1, 1) := by decide +kernel
theorem dX2_partWithNew_2 : decode cX2_partWithNew 2 = .ok (.aload_n 2, 1) := by decide +kernel
theorem dX2_partWithNew_3 : decode cX2_partWithNew 3 = .ok (.iconst (-1), 1) := by decide +kernel
theorem dX2_partWithNew_4 : decode cX2_partWithNew 4 = .ok (.iload_n 3, 1) := by decide +kernel
theorem dX2_partWithNew_5 : decode cX2_partWithNew 5 = .ok (.iload 4, 2) := by decide +kernel
theorem dX2_partWithNew_7 : decode cX2_partWithNew 7 = .ok (.invokevirtual 36, 3) := by decide +kernel
theorem dX2_partWithNew_10 : decode cX2_partWithNew 10 = .ok (.return_, 1) := by decide +kernel
set_option maxRecDepth 20000 in
theorem ggX2_part_X1_size : GoodIn wsX2_part wsX1_size := goodIn_r _ [10, 11, 72, 73] (by decide +kernel) (by decide +kernel)
set_option maxRecDepth 20000 in
theorem gX2_part_X1_size : GoodIn wsX2_part (wsV RX2 40 RX1 yX1_size wsX1_size) := goodIn_app (goodIn_of _ (by decide +kernel)) ggX2_part_X1_size
set_option maxRecDepth 20000 in
theorem ggX2_part_X2_takeWord : GoodIn wsX2_part wsX2_takeWord := goodIn_r _ [16, 5, 17, 18, 67, 68, 69, 70, 71] (by decide +kernel) (by decide +kernel)
set_option maxRecDepth 20000 in
theorem gX2_part_X2_takeWord : GoodIn wsX2_part (wsV RX2 52 RX2 yX2_takeWord wsX2_takeWord) := goodIn_app (goodIn_of _ (by decide +kernel)) ggX2_part_X2_takeWord
set_option maxRecDepth 20000 in
theorem ggX2_part_X0_size : GoodIn wsX2_part wsX0_size := goodIn_r _ [23, 24, 74, 75, 76] (by decide +kernel) (by decide +kernel)
set_option maxRecDepth 20000 in
theorem gX2_part_X0_size : GoodIn wsX2_part (wsV RX2 56 RX0 yX0_size wsX0_size) := goodIn_app (goodIn_of _ (by decide +kernel)) ggX2_part_X0_size
set_option maxRecDepth 20000 in
theorem ggX2_part_X1_hasWordsOf : GoodIn wsX2_part wsX1_hasWordsOf := goodIn_r _ [28, 29, 30, 31, 22, 32, 33, 34, 35, 36, 37, 24, 38, 39, 40, 9, 41, 11, 42, 43, 44, 45, 46, 47, 48, 49, 50, 51, 74, 75, 76, 72, 73] (by decide +kernel) (by decide +kernel)
set_option maxRecDepth 20000 in
theorem gX2_part_X1_hasWordsOf : GoodIn wsX2_part (wsV RX2 59 RX1 yX1_hasWordsOf wsX1_hasWordsOf) := goodIn_app (goodIn_of _ (by decide +kernel)) ggX2_part_X1_hasWordsOf
set_option maxRecDepth 20000 in
theorem ggX2_part_X0_wordsIn : GoodIn wsX2_part wsX0_wordsIn := goodIn_r _ [32, 33, 34, 35, 36, 22, 37, 24, 74, 75, 76] (by decide +kernel) (by decide +kernel)
set_option maxRecDepth 20000 in
theorem gX2_part_X0_wordsIn : GoodIn wsX2_part (wsV RX2 63 RX0 yX0_wordsIn wsX0_wordsIn) := goodIn_app (goodIn_of _ (by decide +kernel)) ggX2_part_X0_wordsIn
set_option maxRecDepth 20000 in
theorem ggX2_part_X2_takeIfBetter : GoodIn wsX2_part wsX2_takeIfBetter := goodIn_r _ [56, 5, 17, 18, 67, 68, 69, 70, 71] (by decide +kernel) (by decide +kernel)
set_option maxRecDepth 20000 in
theorem gX2_part_X2_takeIfBetter : GoodIn wsX2_part (wsV RX2 66 RX2 yX2_takeIfBetter wsX2_takeIfBetter) := goodIn_app (goodIn_of _ (by decide +kernel)) ggX2_part_X2_takeIfBetter
set_option maxRecDepth 20000 in
theorem ggX2_part_X1_hasSameWords : GoodIn wsX2_part wsX1_hasSameWords := goodIn_r _ [60, 38, 39, 40, 9, 41, 11, 42, 43, 44, 45, 46, 72, 73] (by decide +kernel) (by decide +kernel)
set_option maxRecDepth 20000 in
theorem gX2_part_X1_hasSameWords : GoodIn wsX2_part (wsV RX2 70 RX1 yX1_hasSameWords wsX1_hasSameWords) := goodIn_app (goodIn_of _ (by decide +kernel)) ggX2_part_X1_hasSameWords
set_option maxRecDepth 20000 in
theorem ggX2_part_X2_listStarts : GoodIn wsX2_part wsX2_listStarts := goodIn_r _ [64, 65, 66, 17, 67, 68, 69, 70, 71] (by decide +kernel) (by decide +kernel)
set_option maxRecDepth 20000 in
theorem gX2_part_X2_listStarts : GoodIn wsX2_part (wsV RX2 74 RX2 yX2_listStarts wsX2_listStarts) := goodIn_app (goodIn_of _ (by decide +kernel)) ggX2_part_X2_listStarts
theorem dX2_part_0 : decode cX2_part 0 = .ok (.aload_n 1, 1) := by decide +kernel
theorem dX2_part_1 : decode cX2_part 1 = .ok (.invokevirtual 40, 3) := by decide +kernel
theorem dX2_part_4 : decode cX2_part 4 = .ok (.bipush 24, 2) := by decide +kernel
theorem dX2_part_6 : decode cX2_part 6 = .ok (.invokestatic 46, 3) := by decide +kernel
theorem dX2_part_9 : decode cX2_part 9 = .ok (.istore 6, 2) := by decide +kernel
theorem dX2_part_11 : decode cX2_part 11 = .ok (.aload_n 0, 1) := by decide +kernel
theorem dX2_part_12 : decode cX2_part 12 = .ok (.getfield 9, 3) := by decide +kernel
theorem dX2_part_15 : decode cX2_part 15 = .ok (.iload 6, 2) := by decide +kernel
theorem dX2_part_17 : decode cX2_part 17 = .ok (.iconst 0, 1) := by decide +kernel
theorem dX2_part_18 : decode cX2_part 18 = .ok (.iastore, 1) := by decide +kernel
theorem dX2_part_19 : decode cX2_part 19 = .ok (.iload 6, 2) := by decide +kernel
theorem dX2_part_21 : decode cX2_part 21 = .ok (.iconst 1, 1) := by decide +kernel
theorem dX2_part_22 : decode cX2_part 22 = .ok (.isub, 1) := by decide +kernel
theorem dX2_part_23 : decode cX2_part 23 = .ok (.istore 7, 2) := by decide +kernel
theorem dX2_part_25 : decode cX2_part 25 = .ok (.iload 7, 2) := by decide +kernel
theorem dX2_part_27 : decode cX2_part 27 = .ok (.ifCond .lt 93, 3) := by decide +kernel
theorem dX2_part_30 : decode cX2_part 30 = .ok (.aload_n 0, 1) := by decide +kernel
theorem dX2_part_31 : decode cX2_part 31 = .ok (.iload 7, 2) := by decide +kernel
theorem dX2_part_33 : decode cX2_part 33 = .ok (.invokevirtual 52, 3) := by decide +kernel
theorem dX2_part_36 : decode cX2_part 36 = .ok (.iconst 0, 1) := by decide +kernel
theorem dX2_part_37 : decode cX2_part 37 = .ok (.istore 8, 2) := by decide +kernel
theorem dX2_part_39 : decode cX2_part 39 = .ok (.iload 8, 2) := by decide +kernel
theorem dX2_part_41 : decode cX2_part 41 = .ok (.aload_n 2, 1) := by decide +kernel
theorem dX2_part_42 : decode cX2_part 42 = .ok (.invokevirtual 56, 3) := by decide +kernel
theorem dX2_part_45 : decode cX2_part 45 = .ok (.if_icmp .ge 41, 3) := by decide +kernel
theorem dX2_part_48 : decode cX2_part 48 = .ok (.iload 8, 2) := by decide +kernel
theorem dX2_part_50 : decode cX2_part 50 = .ok (.iload_n 3, 1) := by decide +kernel
theorem dX2_part_51 : decode cX2_part 51 = .ok (.if_icmp .eq 29, 3) := by decide +kernel
theorem dX2_part_54 : decode cX2_part 54 = .ok (.aload_n 1, 1) := by decide +kernel
theorem dX2_part_55 : decode cX2_part 55 = .ok (.aload_n 2, 1) := by decide +kernel
theorem dX2_part_56 : decode cX2_part 56 = .ok (.iload 8, 2) := by decide +kernel
theorem dX2_part_58 : decode cX2_part 58 = .ok (.iload 7, 2) := by decide +kernel
theorem dX2_part_60 : decode cX2_part 60 = .ok (.invokevirtual 59, 3) := by decide +kernel
theorem dX2_part_63 : decode cX2_part 63 = .ok (.ifCond .eq 17, 3) := by decide +kernel
theorem dX2_part_66 : decode cX2_part 66 = .ok (.aload_n 0, 1) := by decide +kernel
theorem dX2_part_67 : decode cX2_part 67 = .ok (.iload 7, 2) := by decide +kernel
theorem dX2_part_69 : decode cX2_part 69 = .ok (.aload_n 2, 1) := by decide +kernel
theorem dX2_part_70 : decode cX2_part 70 = .ok (.iload 8, 2) := by decide +kernel
theorem dX2_part_72 : decode cX2_part 72 = .ok (.invokevirtual 63, 3) := by decide +kernel
theorem dX2_part_75 : decode cX2_part 75 = .ok (.iload 8, 2) := by decide +kernel
theorem dX2_part_77 : decode cX2_part 77 = .ok (.invokevirtual 66, 3) := by decide +kernel
theorem dX2_part_80 : decode cX2_part 80 = .ok (.iinc 8 1, 3) := by decide +kernel
theorem dX2_part_83 : decode cX2_part 83 = .ok (.goto (-44), 3) := by decide +kernel
theorem dX2_part_86 : decode cX2_part 86 = .ok (.iload 5, 2) := by decide +kernel
theorem dX2_part_88 : decode cX2_part 88 = .ok (.ifCond .le 26, 3) := by decide +kernel
theorem dX2_part_91 : decode cX2_part 91 = .ok (.aload_n 1, 1) := by decide +kernel
theorem dX2_part_92 : decode cX2_part 92 = .ok (.iload 4, 2) := by decide +kernel
theorem dX2_part_94 : decode cX2_part 94 = .ok (.iload 7, 2) := by decide +kernel
theorem dX2_part_96 : decode cX2_part 96 = .ok (.iload 5, 2) := by decide +kernel
theorem dX2_part_98 : decode cX2_part 98 = .ok (.invokevirtual 70, 3) := by decide +kernel
theorem dX2_part_101 : decode cX2_part 101 = .ok (.ifCond .eq 13, 3) := by decide +kernel
theorem dX2_part_104 : decode cX2_part 104 = .ok (.aload_n 0, 1) := by decide +kernel
theorem dX2_part_105 : decode cX2_part 105 = .ok (.iload 7, 2) := by decide +kernel
theorem dX2_part_107 : decode cX2_part 107 = .ok (.iload 5, 2) := by decide +kernel
theorem dX2_part_109 : decode cX2_part 109 = .ok (.bipush 8, 2) := by decide +kernel
theorem dX2_part_111 : decode cX2_part 111 = .ok (.invokevirtual 66, 3) := by decide +kernel
theorem dX2_part_114 : decode cX2_part 114 = .ok (.iinc 7 (-1), 3) := by decide +kernel
theorem dX2_part_117 : decode cX2_part 117 = .ok (.goto (-92), 3) := by decide +kernel
theorem dX2_part_120 : decode cX2_part 120 = .ok (.aload_n 0, 1) := by decide +kernel
theorem dX2_part_121 : decode cX2_part 121 = .ok (.iload 6, 2) := by decide +kernel
theorem dX2_part_123 : decode cX2_part 123 = .ok (.invokevirtual 74, 3) := by decide +kernel
theorem dX2_part_126 : decode cX2_part 126 = .ok (.return_, 1) := by decide +kernel
theorem dX2_takeWord_0 : decode cX2_takeWord 0 = .ok (.aload_n 0, 1) := by decide +kernel
theorem dX2_takeWord_1 : decode cX2_takeWord 1 = .ok (.getfield 9, 3) := by decide +kernel
theorem dX2_takeWord_4 : decode cX2_takeWord 4 = .ok (.iload_n 1, 1) := by decide +kernel
theorem dX2_takeWord_5 : decode cX2_takeWord 5 = .ok (.aload_n 0, 1) := by decide +kernel
theorem dX2_takeWord_6 : decode cX2_takeWord 6 = .ok (.getfield 9, 3) := by decide +kernel
theorem dX2_takeWord_9 : decode cX2_takeWord 9 = .ok (.iload_n 1, 1) := by decide +kernel
theorem dX2_takeWord_10 : decode cX2_takeWord 10 = .ok (.iconst 1, 1) := by decide +kernel
theorem dX2_takeWord_11 : decode cX2_takeWord 11 = .ok (.iadd, 1) := by decide +kernel
theorem dX2_takeWord_12 : decode cX2_takeWord 12 = .ok (.iaload, 1) := by decide +kernel
theorem dX2_takeWord_13 : decode cX2_takeWord 13 = .ok (.iconst 1, 1) := by decide +kernel
theorem dX2_takeWord_14 : decode cX2_takeWord 14 = .ok (.iadd, 1) := by decide +kernel
theorem dX2_takeWord_15 : decode cX2_takeWord 15 = .ok (.iastore, 1) := by decide +kernel
theorem dX2_takeWord_16 : decode cX2_takeWord 16 = .ok (.aload_n 0, 1) := by decide +kernel
theorem dX2_takeWord_17 : decode cX2_takeWord 17 = .ok (.getfield 15, 3) := by decide +kernel
theorem dX2_takeWord_20 : decode cX2_takeWord 20 = .ok (.iload_n 1, 1) := by decide +kernel
theorem dX2_takeWord_21 : decode cX2_takeWord 21 = .ok (.iconst 1, 1) := by decide +kernel
theorem dX2_takeWord_22 : decode cX2_takeWord 22 = .ok (.iastore, 1) := by decide +kernel
theorem dX2_takeWord_23 : decode cX2_takeWord 23 = .ok (.aload_n 0, 1) := by decide +kernel
theorem dX2_takeWord_24 : decode cX2_takeWord 24 = .ok (.getfield 18, 3) := by decide +kernel
theorem dX2_takeWord_27 : decode cX2_takeWord 27 = .ok (.iload_n 1, 1) := by decide +kernel
theorem dX2_takeWord_28 : decode cX2_takeWord 28 = .ok (.iconst (-1), 1) := by decide +kernel
theorem dX2_takeWord_29 : decode cX2_takeWord 29 = .ok (.iastore, 1) := by decide +kernel
theorem dX2_takeWord_30 : decode cX2_takeWord 30 = .ok (.return_, 1) := by decide +kernel
theorem dX2_takeIfBetter_0 : decode cX2_takeIfBetter 0 = .ok (.iload_n 1, 1) := by decide +kernel
theorem dX2_takeIfBetter_1 : decode cX2_takeIfBetter 1 = .ok (.iload_n 2, 1) := by decide +kernel
theorem dX2_takeIfBetter_2 : decode cX2_takeIfBetter 2 = .ok (.iadd, 1) := by decide +kernel
theorem dX2_takeIfBetter_3 : decode cX2_takeIfBetter 3 = .ok (.bipush 24, 2) := by decide +kernel
theorem dX2_takeIfBetter_5 : decode cX2_takeIfBetter 5 = .ok (.if_icmp .le 4, 3) := by decide +kernel
theorem dX2_takeIfBetter_8 : decode cX2_takeIfBetter 8 = .ok (.return_, 1) := by decide +kernel
theorem dX2_takeIfBetter_9 : decode cX2_takeIfBetter 9 = .ok (.aload_n 0, 1) := by decide +kernel
theorem dX2_takeIfBetter_10 : decode cX2_takeIfBetter 10 = .ok (.getfield 9, 3) := by decide +kernel
theorem dX2_takeIfBetter_13 : decode cX2_takeIfBetter 13 = .ok (.iload_n 1, 1) := by decide +kernel
theorem dX2_takeIfBetter_14 : decode cX2_takeIfBetter 14 = .ok (.iload_n 2, 1) := by decide +kernel
theorem dX2_takeIfBetter_15 : decode cX2_takeIfBetter 15 = .ok (.iadd, 1) := by decide +kernel
theorem dX2_takeIfBetter_16 : decode cX2_takeIfBetter 16 = .ok (.iaload, 1) := by decide +kernel
theorem dX2_takeIfBetter_17 : decode cX2_takeIfBetter 17 = .ok (.iconst 1, 1) := by decide +kernel
theorem dX2_takeIfBetter_18 : decode cX2_takeIfBetter 18 = .ok (.iadd, 1) := by decide +kernel
theorem dX2_takeIfBetter_19 : decode cX2_takeIfBetter 19 = .ok (.istore 4, 2) := by decide +kernel
theorem dX2_takeIfBetter_21 : decode cX2_takeIfBetter 21 = .ok (.iload 4, 2) := by decide +kernel
theorem dX2_takeIfBetter_23 : decode cX2_takeIfBetter 23 = .ok (.aload_n 0, 1) := by decide +kernel
theorem dX2_takeIfBetter_24 : decode cX2_takeIfBetter 24 = .ok (.getfield 9, 3) := by decide +kernel
theorem dX2_takeIfBetter_27 : decode cX2_takeIfBetter 27 = .ok (.iload_n 1, 1) := by decide +kernel
theorem dX2_takeIfBetter_28 : decode cX2_takeIfBetter 28 = .ok (.iaload, 1) := by decide +kernel
theorem dX2_takeIfBetter_29 : decode cX2_takeIfBetter 29 = .ok (.if_icmp .lt 24, 3) := by decide +kernel
theorem dX2_takeIfBetter_32 : decode cX2_takeIfBetter 32 = .ok (.iload 4, 2) := by decide +kernel
theorem dX2_takeIfBetter_34 : decode cX2_takeIfBetter 34 = .ok (.aload_n 0, 1) := by decide +kernel
theorem dX2_takeIfBetter_35 : decode cX2_takeIfBetter 35 = .ok (.getfield 9, 3) := by decide +kernel
theorem dX2_takeIfBetter_38 : decode cX2_takeIfBetter 38 = .ok (.iload_n 1, 1) := by decide +kernel
theorem dX2_takeIfBetter_39 : decode cX2_takeIfBetter 39 = .ok (.iaload, 1) := by decide +kernel
theorem dX2_takeIfBetter_40 : decode cX2_takeIfBetter 40 = .ok (.if_icmp .ne 35, 3) := by decide +kernel
theorem dX2_takeIfBetter_43 : decode cX2_takeIfBetter 43 = .ok (.iload_n 2, 1) := by decide +kernel
theorem dX2_takeIfBetter_44 : decode cX2_takeIfBetter 44 = .ok (.aload_n 0, 1) := by decide +kernel
theorem dX2_takeIfBetter_45 : decode cX2_takeIfBetter 45 = .ok (.getfield 15, 3) := by decide +kernel
theorem dX2_takeIfBetter_48 : decode cX2_takeIfBetter 48 = .ok (.iload_n 1, 1) := by decide +kernel
theorem dX2_takeIfBetter_49 : decode cX2_takeIfBetter 49 = .ok (.iaload, 1) := by decide +kernel
theorem dX2_takeIfBetter_50 : decode cX2_takeIfBetter 50 = .ok (.if_icmp .le 25, 3) := by decide +kernel
theorem dX2_takeIfBetter_53 : decode cX2_takeIfBetter 53 = .ok (.aload_n 0, 1) := by decide +kernel
theorem dX2_takeIfBetter_54 : decode cX2_takeIfBetter 54 = .ok (.getfield 9, 3) := by decide +kernel
theorem dX2_takeIfBetter_57 : decode cX2_takeIfBetter 57 = .ok (.iload_n 1, 1) := by decide +kernel
theorem dX2_takeIfBetter_58 : decode cX2_takeIfBetter 58 = .ok (.iload 4, 2) := by decide +kernel
theorem dX2_takeIfBetter_60 : decode cX2_takeIfBetter 60 = .ok (.iastore, 1) := by decide +kernel
theorem dX2_takeIfBetter_61 : decode cX2_takeIfBetter 61 = .ok (.aload_n 0, 1) := by decide +kernel
theorem dX2_takeIfBetter_62 : decode cX2_takeIfBetter 62 = .ok (.getfield 15, 3) := by decide +kernel
theorem dX2_takeIfBetter_65 : decode cX2_takeIfBetter 65 = .ok (.iload_n 1, 1) := by decide +kernel
theorem dX2_takeIfBetter_66 : decode cX2_takeIfBetter 66 = .ok (.iload_n 2, 1) := by decide +kernel
theorem dX2_takeIfBetter_67 : decode cX2_takeIfBetter 67 = .ok (.iastore, 1) := by decide +kernel
theorem dX2_takeIfBetter_68 : decode cX2_takeIfBetter 68 = .ok (.aload_n 0, 1) := by decide +kernel
theorem dX2_takeIfBetter_69 : decode cX2_takeIfBetter 69 = .ok (.getfield 18, 3) := by decide +kernel
theorem dX2_takeIfBetter_72 : decode cX2_takeIfBetter 72 = .ok (.iload_n 1, 1) := by decide +kernel
theorem dX2_takeIfBetter_73 : decode cX2_takeIfBetter 73 = .ok (.iload_n 3, 1) := by decide +kernel
theorem dX2_takeIfBetter_74 : decode cX2_takeIfBetter 74 = .ok (.iastore, 1) := by decide +kernel
theorem dX2_takeIfBetter_75 : decode cX2_takeIfBetter 75 = .ok (.return_, 1) := by decide +kernel
theorem dX2_listStarts_0 : decode cX2_listStarts 0 = .ok (.aload_n 0, 1) := by decide +kernel
theorem dX2_listStarts_1 : decode cX2_listStarts 1 = .ok (.iconst 0, 1) := by decide +kernel
theorem dX2_listStarts_2 : decode cX2_listStarts 2 = .ok (.putfield 24, 3) := by decide +kernel
theorem dX2_listStarts_5 : decode cX2_listStarts 5 = .ok (.iconst 0, 1) := by decide +kernel
theorem dX2_listStarts_6 : decode cX2_listStarts 6 = .ok (.istore_n 2, 1) := by decide +kernel
theorem dX2_listStarts_7 : decode cX2_listStarts 7 = .ok (.iload_n 2, 1) := by decide +kernel
theorem dX2_listStarts_8 : decode cX2_listStarts 8 = .ok (.iload_n 1, 1) := by decide +kernel
theorem dX2_listStarts_9 : decode cX2_listStarts 9 = .ok (.if_icmp .ge 44, 3) := by decide +kernel
theorem dX2_listStarts_12 : decode cX2_listStarts 12 = .ok (.aload_n 0, 1) := by decide +kernel
theorem dX2_listStarts_13 : decode cX2_listStarts 13 = .ok (.getfield 24, 3) := by decide +kernel
theorem dX2_listStarts_16 : decode cX2_listStarts 16 = .ok (.bipush 24, 2) := by decide +kernel
theorem dX2_listStarts_18 : decode cX2_listStarts 18 = .ok (.if_icmp .ge 35, 3) := by decide +kernel
theorem dX2_listStarts_21 : decode cX2_listStarts 21 = .ok (.aload_n 0, 1) := by decide +kernel
theorem dX2_listStarts_22 : decode cX2_listStarts 22 = .ok (.getfield 21, 3) := by decide +kernel
theorem dX2_listStarts_25 : decode cX2_listStarts 25 = .ok (.aload_n 0, 1) := by decide +kernel
theorem dX2_listStarts_26 : decode cX2_listStarts 26 = .ok (.getfield 24, 3) := by decide +kernel
theorem dX2_listStarts_29 : decode cX2_listStarts 29 = .ok (.iload_n 2, 1) := by decide +kernel
theorem dX2_listStarts_30 : decode cX2_listStarts 30 = .ok (.iastore, 1) := by decide +kernel
theorem dX2_listStarts_31 : decode cX2_listStarts 31 = .ok (.aload_n 0, 1) := by decide +kernel
theorem dX2_listStarts_32 : decode cX2_listStarts 32 = .ok (.dup, 1) := by decide +kernel
theorem dX2_listStarts_33 : decode cX2_listStarts 33 = .ok (.getfield 24, 3) := by decide +kernel
theorem dX2_listStarts_36 : decode cX2_listStarts 36 = .ok (.iconst 1, 1) := by decide +kernel
theorem dX2_listStarts_37 : decode cX2_listStarts 37 = .ok (.iadd, 1) := by decide +kernel
theorem dX2_listStarts_38 : decode cX2_listStarts 38 = .ok (.putfield 24, 3) := by decide +kernel
theorem dX2_listStarts_41 : decode cX2_listStarts 41 = .ok (.iload_n 2, 1) := by decide +kernel
theorem dX2_listStarts_42 : decode cX2_listStarts 42 = .ok (.aload_n 0, 1) := by decide +kernel
theorem dX2_listStarts_43 : decode cX2_listStarts 43 = .ok (.getfield 15, 3) := by decide +kernel
theorem dX2_listStarts_46 : decode cX2_listStarts 46 = .ok (.iload_n 2, 1) := by decide +kernel
theorem dX2_listStarts_47 : decode cX2_listStarts 47 = .ok (.iaload, 1) := by decide +kernel
theorem dX2_listStarts_48 : decode cX2_listStarts 48 = .ok (.iadd, 1) := by decide +kernel
theorem dX2_listStarts_49 : decode cX2_listStarts 49 = .ok (.istore_n 2, 1) := by decide +kernel
theorem dX2_listStarts_50 : decode cX2_listStarts 50 = .ok (.goto (-43), 3) := by decide +kernel
theorem dX2_listStarts_53 : decode cX2_listStarts 53 = .ok (.return_, 1) := by decide +kernel
theorem dX3_init_0 : decode cX3_init 0 = .ok (.aload_n 0, 1) := by decide +kernel
theorem dX3_init_1 : decode cX3_init 1 = .ok (.invokespecial 3, 3) := by decide +kernel
theorem dX3_init_4 : decode cX3_init 4 = .ok (.return_, 1) := by decide +kernel
set_option maxRecDepth 20000 in
theorem ggX3_run_X3_pass : GoodIn wsX3_run wsX3_pass := goodIn_r _ [9, 2, 3, 4, 10, 11, 12, 8, 13, 1, 14, 15, 16, 17, 18, 19, 20] (by decide +kernel) (by decide +kernel)
set_option maxRecDepth 20000 in
theorem gX3_run_X3_pass : GoodIn wsX3_run (wsV RX3 24 RX3 yX3_pass wsX3_pass) := goodIn_app (goodIn_of _ (by decide +kernel)) ggX3_run_X3_pass
theorem dX3_run_0 : decode cX3_run 0 = .ok (.aload_n 0, 1) := by decide +kernel
theorem dX3_run_1 : decode cX3_run 1 = .ok (.iload_n 2, 1) := by decide +kernel
theorem dX3_run_2 : decode cX3_run 2 = .ok (.putfield 9, 3) := by decide +kernel
theorem dX3_run_5 : decode cX3_run 5 = .ok (.aload_n 0, 1) := by decide +kernel
theorem dX3_run_6 : decode cX3_run 6 = .ok (.iconst 0, 1) := by decide +kernel
theorem dX3_run_7 : decode cX3_run 7 = .ok (.putfield 15, 3) := by decide +kernel
theorem dX3_run_10 : decode cX3_run 10 = .ok (.aload_n 0, 1) := by decide +kernel
theorem dX3_run_11 : decode cX3_run 11 = .ok (.iconst 0, 1) := by decide +kernel
theorem dX3_run_12 : decode cX3_run 12 = .ok (.putfield 18, 3) := by decide +kernel
theorem dX3_run_15 : decode cX3_run 15 = .ok (.aload_n 0, 1) := by decide +kernel
theorem dX3_run_16 : decode cX3_run 16 = .ok (.iconst 0, 1) := by decide +kernel
theorem dX3_run_17 : decode cX3_run 17 = .ok (.putfield 21, 3) := by decide +kernel
theorem dX3_run_20 : decode cX3_run 20 = .ok (.iconst 0, 1) := by decide +kernel
theorem dX3_run_21 : decode cX3_run 21 = .ok (.istore 4, 2) := by decide +kernel
theorem dX3_run_23 : decode cX3_run 23 = .ok (.iload 4, 2) := by decide +kernel
theorem dX3_run_25 : decode cX3_run 25 = .ok (.iload_n 1, 1) := by decide +kernel
theorem dX3_run_26 : decode cX3_run 26 = .ok (.if_icmp .ge 14, 3) := by decide +kernel
theorem dX3_run_29 : decode cX3_run 29 = .ok (.aload_n 0, 1) := by decide +kernel
theorem dX3_run_30 : decode cX3_run 30 = .ok (.iload_n 3, 1) := by decide +kernel
theorem dX3_run_31 : decode cX3_run 31 = .ok (.invokevirtual 24, 3) := by decide +kernel
theorem dX3_run_34 : decode cX3_run 34 = .ok (.iinc 4 1, 3) := by decide +kernel
theorem dX3_run_37 : decode cX3_run 37 = .ok (.goto (-14), 3) := by decide +kernel
theorem dX3_run_40 : decode cX3_run 40 = .ok (.return_, 1) := by decide +kernel
theorem dX3_sentAtEnd_0 : decode cX3_sentAtEnd 0 = .ok (.aload_n 0, 1) := by decide +kernel
theorem dX3_sentAtEnd_1 : decode cX3_sentAtEnd 1 = .ok (.getfield 9, 3) := by decide +kernel
theorem dX3_sentAtEnd_4 : decode cX3_sentAtEnd 4 = .ok (.ireturn, 1) := by decide +kernel
theorem dX3_garbledAtFirst_0 : decode cX3_garbledAtFirst 0 = .ok (.aload_n 0, 1) := by decide +kernel
theorem dX3_garbledAtFirst_1 : decode cX3_garbledAtFirst 1 = .ok (.getfield 15, 3) := by decide +kernel
theorem dX3_garbledAtFirst_4 : decode cX3_garbledAtFirst 4 = .ok (.ireturn, 1) := by decide +kernel
theorem dX3_repeatsAsked_0 : decode cX3_repeatsAsked 0 = .ok (.aload_n 0, 1) := by decide +kernel
theorem dX3_repeatsAsked_1 : decode cX3_repeatsAsked 1 = .ok (.getfield 18, 3) := by decide +kernel
theorem dX3_repeatsAsked_4 : decode cX3_repeatsAsked 4 = .ok (.ireturn, 1) := by decide +kernel
theorem dX3_groupsLost_0 : decode cX3_groupsLost 0 = .ok (.aload_n 0, 1) := by decide +kernel
theorem dX3_groupsLost_1 : decode cX3_groupsLost 1 = .ok (.getfield 21, 3) := by decide +kernel
theorem dX3_groupsLost_4 : decode cX3_groupsLost 4 = .ok (.ireturn, 1) := by decide +kernel
set_option maxRecDepth 20000 in
theorem ggX3_pass_X3_isNextGarbled : GoodIn wsX3_pass wsX3_isNextGarbled := goodIn_r _ [8, 9, 10, 11, 12, 13, 14, 15, 16] (by decide +kernel) (by decide +kernel)
set_option maxRecDepth 20000 in
theorem gX3_pass_X3_isNextGarbled : GoodIn wsX3_pass (wsV RX3 28 RX3 yX3_isNextGarbled wsX3_isNextGarbled) := goodIn_app (goodIn_of _ (by decide +kernel)) ggX3_pass_X3_isNextGarbled
theorem dX3_pass_0 : decode cX3_pass 0 = .ok (.aload_n 0, 1) := by decide +kernel
theorem dX3_pass_1 : decode cX3_pass 1 = .ok (.iload_n 1, 1) := by decide +kernel
theorem dX3_pass_2 : decode cX3_pass 2 = .ok (.invokevirtual 28, 3) := by decide +kernel
theorem dX3_pass_5 : decode cX3_pass 5 = .ok (.istore_n 2, 1) := by decide +kernel
theorem dX3_pass_6 : decode cX3_pass 6 = .ok (.iload_n 2, 1) := by decide +kernel
theorem dX3_pass_7 : decode cX3_pass 7 = .ok (.ifCond .eq 13, 3) := by decide +kernel
theorem dX3_pass_10 : decode cX3_pass 10 = .ok (.aload_n 0, 1) := by decide +kernel
theorem dX3_pass_11 : decode cX3_pass 11 = .ok (.dup, 1) := by decide +kernel
theorem dX3_pass_12 : decode cX3_pass 12 = .ok (.getfield 15, 3) := by decide +kernel
theorem dX3_pass_15 : decode cX3_pass 15 = .ok (.iconst 1, 1) := by decide +kernel
theorem dX3_pass_16 : decode cX3_pass 16 = .ok (.iadd, 1) := by decide +kernel
theorem dX3_pass_17 : decode cX3_pass 17 = .ok (.putfield 15, 3) := by decide +kernel
theorem dX3_pass_20 : decode cX3_pass 20 = .ok (.iconst 0, 1) := by decide +kernel
theorem dX3_pass_21 : decode cX3_pass 21 = .ok (.istore_n 3, 1) := by decide +kernel
theorem dX3_pass_22 : decode cX3_pass 22 = .ok (.iload_n 2, 1) := by decide +kernel
theorem dX3_pass_23 : decode cX3_pass 23 = .ok (.ifCond .eq 20, 3) := by decide +kernel
theorem dX3_pass_26 : decode cX3_pass 26 = .ok (.iload_n 3, 1) := by decide +kernel
theorem dX3_pass_27 : decode cX3_pass 27 = .ok (.iconst 3, 1) := by decide +kernel
theorem dX3_pass_28 : decode cX3_pass 28 = .ok (.if_icmp .ge 15, 3) := by decide +kernel
theorem dX3_pass_31 : decode cX3_pass 31 = .ok (.iinc 3 1, 3) := by decide +kernel
theorem dX3_pass_34 : decode cX3_pass 34 = .ok (.aload_n 0, 1) := by decide +kernel
theorem dX3_pass_35 : decode cX3_pass 35 = .ok (.iload_n 1, 1) := by decide +kernel
theorem dX3_pass_36 : decode cX3_pass 36 = .ok (.invokevirtual 28, 3) := by decide +kernel
theorem dX3_pass_39 : decode cX3_pass 39 = .ok (.istore_n 2, 1) := by decide +kernel
theorem dX3_pass_40 : decode cX3_pass 40 = .ok (.goto (-18), 3) := by decide +kernel
theorem dX3_pass_43 : decode cX3_pass 43 = .ok (.aload_n 0, 1) := by decide +kernel
theorem dX3_pass_44 : decode cX3_pass 44 = .ok (.dup, 1) := by decide +kernel
theorem dX3_pass_45 : decode cX3_pass 45 = .ok (.getfield 18, 3) := by decide +kernel
theorem dX3_pass_48 : decode cX3_pass 48 = .ok (.iload_n 3, 1) := by decide +kernel
theorem dX3_pass_49 : decode cX3_pass 49 = .ok (.iadd, 1) := by decide +kernel
theorem dX3_pass_50 : decode cX3_pass 50 = .ok (.putfield 18, 3) := by decide +kernel
theorem dX3_pass_53 : decode cX3_pass 53 = .ok (.iload_n 2, 1) := by decide +kernel
theorem dX3_pass_54 : decode cX3_pass 54 = .ok (.ifCond .eq 13, 3) := by decide +kernel
theorem dX3_pass_57 : decode cX3_pass 57 = .ok (.aload_n 0, 1) := by decide +kernel
theorem dX3_pass_58 : decode cX3_pass 58 = .ok (.dup, 1) := by decide +kernel
theorem dX3_pass_59 : decode cX3_pass 59 = .ok (.getfield 21, 3) := by decide +kernel
theorem dX3_pass_62 : decode cX3_pass 62 = .ok (.iconst 1, 1) := by decide +kernel
theorem dX3_pass_63 : decode cX3_pass 63 = .ok (.iadd, 1) := by decide +kernel
theorem dX3_pass_64 : decode cX3_pass 64 = .ok (.putfield 21, 3) := by decide +kernel
theorem dX3_pass_67 : decode cX3_pass 67 = .ok (.return_, 1) := by decide +kernel
set_option maxRecDepth 20000 in
theorem ggX3_isNextGarbled_X4_isGarbled : GoodIn wsX3_isNextGarbled wsX4_isGarbled := goodIn_r _ [4] (by decide +kernel) (by decide +kernel)
set_option maxRecDepth 20000 in
theorem gX3_isNextGarbled_X4_isGarbled_n32 : GoodIn wsX3_isNextGarbled (wsX4_isGarbled) := ggX3_isNextGarbled_X4_isGarbled
theorem dX3_isNextGarbled_0 : decode cX3_isNextGarbled 0 = .ok (.aload_n 0, 1) := by decide +kernel
theorem dX3_isNextGarbled_1 : decode cX3_isNextGarbled 1 = .ok (.dup, 1) := by decide +kernel
theorem dX3_isNextGarbled_2 : decode cX3_isNextGarbled 2 = .ok (.getfield 9, 3) := by decide +kernel
theorem dX3_isNextGarbled_5 : decode cX3_isNextGarbled 5 = .ok (.iconst 1, 1) := by decide +kernel
theorem dX3_isNextGarbled_6 : decode cX3_isNextGarbled 6 = .ok (.iadd, 1) := by decide +kernel
theorem dX3_isNextGarbled_7 : decode cX3_isNextGarbled 7 = .ok (.putfield 9, 3) := by decide +kernel
theorem dX3_isNextGarbled_10 : decode cX3_isNextGarbled 10 = .ok (.aload_n 0, 1) := by decide +kernel
theorem dX3_isNextGarbled_11 : decode cX3_isNextGarbled 11 = .ok (.getfield 9, 3) := by decide +kernel
theorem dX3_isNextGarbled_14 : decode cX3_isNextGarbled 14 = .ok (.iload_n 1, 1) := by decide +kernel
theorem dX3_isNextGarbled_15 : decode cX3_isNextGarbled 15 = .ok (.invokestatic 32, 3) := by decide +kernel
theorem dX3_isNextGarbled_18 : decode cX3_isNextGarbled 18 = .ok (.ireturn, 1) := by decide +kernel
set_option maxRecDepth 20000 in
theorem ggX4_init_X0_init : GoodIn wsX4_init wsX0_init := goodIn_r _ [24, 25, 2, 3, 26, 27, 28, 45, 46, 47] (by decide +kernel) (by decide +kernel)
set_option maxRecDepth 20000 in
theorem gX4_init_X0_init : GoodIn wsX4_init (wsX0_init) := ggX4_init_X0_init
set_option maxRecDepth 20000 in
theorem ggX4_init_X1_init : GoodIn wsX4_init wsX1_init := goodIn_r _ [31, 32, 2, 3, 26, 33, 58, 59] (by decide +kernel) (by decide +kernel)
set_option maxRecDepth 20000 in
theorem gX4_init_X1_init : GoodIn wsX4_init (wsX1_init) := ggX4_init_X1_init
set_option maxRecDepth 20000 in
theorem ggX4_init_X2_init : GoodIn wsX4_init wsX2_init := goodIn_r _ [36, 37, 2, 3, 26, 38, 39, 40, 41, 60, 61, 62, 63, 64] (by decide +kernel) (by decide +kernel)
set_option maxRecDepth 20000 in
theorem gX4_init_X2_init : GoodIn wsX4_init (wsX2_init) := ggX4_init_X2_init
set_option maxRecDepth 20000 in
theorem ggX4_init_X3_init : GoodIn wsX4_init wsX3_init := goodIn_r _ [43, 44, 2, 3] (by decide +kernel) (by decide +kernel)
set_option maxRecDepth 20000 in
theorem gX4_init_X3_init_n35 : GoodIn wsX4_init (wsX3_init) := ggX4_init_X3_init
theorem dX4_init_0 : decode cX4_init 0 = .ok (.aload_n 0, 1) := by decide +kernel
theorem dX4_init_1 : decode cX4_init 1 = .ok (.invokespecial 1, 3) := by decide +kernel
theorem dX4_init_4 : decode cX4_init 4 = .ok (.aload_n 0, 1) := by decide +kernel
theorem dX4_init_5 : decode cX4_init 5 = .ok (.new 7, 3) := by decide +kernel
theorem dX4_init_8 : decode cX4_init 8 = .ok (.dup, 1) := by decide +kernel
theorem dX4_init_9 : decode cX4_init 9 = .ok (.invokespecial 9, 3) := by decide +kernel
theorem dX4_init_12 : decode cX4_init 12 = .ok (.putfield 10, 3) := by decide +kernel
theorem dX4_init_15 : decode cX4_init 15 = .ok (.aload_n 0, 1) := by decide +kernel
theorem dX4_init_16 : decode cX4_init 16 = .ok (.new 16, 3) := by decide +kernel
theorem dX4_init_19 : decode cX4_init 19 = .ok (.dup, 1) := by decide +kernel
theorem dX4_init_20 : decode cX4_init 20 = .ok (.invokespecial 18, 3) := by decide +kernel
theorem dX4_init_23 : decode cX4_init 23 = .ok (.putfield 19, 3) := by decide +kernel
theorem dX4_init_26 : decode cX4_init 26 = .ok (.aload_n 0, 1) := by decide +kernel
theorem dX4_init_27 : decode cX4_init 27 = .ok (.new 23, 3) := by decide +kernel
theorem dX4_init_30 : decode cX4_init 30 = .ok (.dup, 1) := by decide +kernel
theorem dX4_init_31 : decode cX4_init 31 = .ok (.invokespecial 25, 3) := by decide +kernel
theorem dX4_init_34 : decode cX4_init 34 = .ok (.putfield 26, 3) := by decide +kernel
theorem dX4_init_37 : decode cX4_init 37 = .ok (.aload_n 0, 1) := by decide +kernel
theorem dX4_init_38 : decode cX4_init 38 = .ok (.new 23, 3) := by decide +kernel
theorem dX4_init_41 : decode cX4_init 41 = .ok (.dup, 1) := by decide +kernel
theorem dX4_init_42 : decode cX4_init 42 = .ok (.invokespecial 25, 3) := by decide +kernel
theorem dX4_init_45 : decode cX4_init 45 = .ok (.putfield 30, 3) := by decide +kernel
theorem dX4_init_48 : decode cX4_init 48 = .ok (.aload_n 0, 1) := by decide +kernel
theorem dX4_init_49 : decode cX4_init 49 = .ok (.new 33, 3) := by decide +kernel
theorem dX4_init_52 : decode cX4_init 52 = .ok (.dup, 1) := by decide +kernel
theorem dX4_init_53 : decode cX4_init 53 = .ok (.invokespecial 35, 3) := by decide +kernel
theorem dX4_init_56 : decode cX4_init 56 = .ok (.putfield 36, 3) := by decide +kernel
theorem dX4_init_59 : decode cX4_init 59 = .ok (.aload_n 0, 1) := by decide +kernel
theorem dX4_init_60 : decode cX4_init 60 = .ok (.bipush 7, 2) := by decide +kernel
theorem dX4_init_62 : decode cX4_init 62 = .ok (.putfield 40, 3) := by decide +kernel
theorem dX4_init_65 : decode cX4_init 65 = .ok (.return_, 1) := by decide +kernel
set_option maxRecDepth 20000 in
theorem ggX4_addCode_X4_isType : GoodIn wsX4_addCode wsX4_isType := goodIn_r _ [9] (by decide +kernel) (by decide +kernel)
set_option maxRecDepth 20000 in
theorem gX4_addCode_X4_isType : GoodIn wsX4_addCode (va_wsS RX4 44 yX4_isType wsX4_isType) := goodIn_app (goodIn_of _ (by decide +kernel)) ggX4_addCode_X4_isType
set_option maxRecDepth 20000 in
theorem ggX4_addCode_X4_isTypeOrNone : GoodIn wsX4_addCode wsX4_isTypeOrNone := goodIn_r _ [12, 6, 7, 8, 9] (by decide +kernel) (by decide +kernel)
set_option maxRecDepth 20000 in
theorem gX4_addCode_X4_isTypeOrNone : GoodIn wsX4_addCode (va_wsS RX4 55 yX4_isTypeOrNone wsX4_isTypeOrNone) := goodIn_app (goodIn_of _ (by decide +kernel)) ggX4_addCode_X4_isTypeOrNone
set_option maxRecDepth 20000 in
theorem ggX4_addCode_X0_isFull : GoodIn wsX4_addCode wsX0_isFull := goodIn_r _ [17, 18, 118, 119, 120] (by decide +kernel) (by decide +kernel)
set_option maxRecDepth 20000 in
theorem gX4_addCode_X0_isFull : GoodIn wsX4_addCode (wsV RX4 62 RX0 yX0_isFull wsX0_isFull) := goodIn_app (goodIn_of _ (by decide +kernel)) ggX4_addCode_X0_isFull
set_option maxRecDepth 20000 in
theorem ggX4_addCode_X0_holds : GoodIn wsX4_addCode wsX0_holds := goodIn_r _ [22, 18, 23, 24, 25, 16, 26, 27, 28, 29, 30, 31, 118, 119, 120] (by decide +kernel) (by decide +kernel)
set_option maxRecDepth 20000 in
theorem gX4_addCode_X0_holds : GoodIn wsX4_addCode (wsV RX4 71 RX0 yX0_holds wsX0_holds) := goodIn_app (goodIn_of _ (by decide +kernel)) ggX4_addCode_X0_holds
set_option maxRecDepth 20000 in
theorem ggX4_addCode_X0_append : GoodIn wsX4_addCode wsX0_append := goodIn_r _ [35, 18, 27, 36, 37, 14, 15, 16, 17, 118, 119, 120] (by decide +kernel) (by decide +kernel)
set_option maxRecDepth 20000 in
theorem gX4_addCode_X0_append : GoodIn wsX4_addCode (wsV RX4 77 RX0 yX0_append wsX0_append) := goodIn_app (goodIn_of _ (by decide +kernel)) ggX4_addCode_X0_append
set_option maxRecDepth 20000 in
theorem ggX4_addCode_X4_shorten : GoodIn wsX4_addCode wsX4_shorten := goodIn_r _ [41, 42, 43, 5, 44, 45, 46, 47, 48, 49, 50, 51, 52, 53, 54, 55, 56, 57, 58, 59, 60, 61, 62, 63, 64, 65, 66, 67, 68, 69, 70, 71, 72, 16, 73, 18, 74, 75, 76, 77, 78, 79, 80, 81, 36, 28, 29, 30, 31, 82, 83, 84, 85, 86, 87, 88, 89, 90, 91, 24, 25, 26, 27, 92, 93, 94, 95, 96, 97, 98, 99, 100, 101, 102, 103, 104, 105, 106, 108, 109, 110, 111, 112, 113, 114, 115, 116, 117, 121, 122, 123, 124, 125, 126, 127, 118, 119, 120] (by decide +kernel) (by decide +kernel)
set_option maxRecDepth 20000 in
theorem gX4_addCode_X4_shorten : GoodIn wsX4_addCode (wsV RX4 81 RX4 yX4_shorten wsX4_shorten) := goodIn_app (goodIn_of _ (by decide +kernel)) ggX4_addCode_X4_shorten
set_option maxRecDepth 20000 in
theorem ggX4_addCode_X0_size : GoodIn wsX4_addCode wsX0_size := goodIn_r _ [73, 18, 118, 119, 120] (by decide +kernel) (by decide +kernel)
set_option maxRecDepth 20000 in
theorem gX4_addCode_X0_size : GoodIn wsX4_addCode (wsV RX4 84 RX0 yX0_size wsX0_size) := goodIn_app (goodIn_of _ (by decide +kernel)) ggX4_addCode_X0_size
theorem dX4_addCode_0 : decode cX4_addCode 0 = .ok (.iload_n 1, 1) := by decide +kernel
theorem dX4_addCode_1 : decode cX4_addCode 1 = .ok (.invokestatic 44, 3) := by decide +kernel
theorem dX4_addCode_4 : decode cX4_addCode 4 = .ok (.ifCond .eq 10, 3) := by decide +kernel
theorem dX4_addCode_7 : decode cX4_addCode 7 = .ok (.iload_n 2, 1) := by decide +kernel
theorem dX4_addCode_8 : decode cX4_addCode 8 = .ok (.invokestatic 44, 3) := by decide +kernel
theorem dX4_addCode_11 : decode cX4_addCode 11 = .ok (.ifCond .ne 13, 3) := by decide +kernel
theorem dX4_addCode_14 : decode cX4_addCode 14 = .ok (.new 48, 3) := by decide +kernel
theorem dX4_addCode_17 : decode cX4_addCode 17 = .ok (.dup, 1) := by decide +kernel
theorem dX4_addCode_18 : decode cX4_addCode 18 = .ok (.ldc 50, 2) := by decide +kernel
theorem dX4_addCode_20 : decode cX4_addCode 20 = .ok (.invokespecial 52, 3) := by decide +kernel
theorem dX4_addCode_23 : decode cX4_addCode 23 = .ok (.athrow, 1) := by decide +kernel
theorem dX4_addCode_24 : decode cX4_addCode 24 = .ok (.iload_n 3, 1) := by decide +kernel
theorem dX4_addCode_25 : decode cX4_addCode 25 = .ok (.invokestatic 55, 3) := by decide +kernel
theorem dX4_addCode_28 : decode cX4_addCode 28 = .ok (.ifCond .eq 11, 3) := by decide +kernel
theorem dX4_addCode_31 : decode cX4_addCode 31 = .ok (.iload 4, 2) := by decide +kernel
theorem dX4_addCode_33 : decode cX4_addCode 33 = .ok (.invokestatic 55, 3) := by decide +kernel
theorem dX4_addCode_36 : decode cX4_addCode 36 = .ok (.ifCond .ne 13, 3) := by decide +kernel
theorem dX4_addCode_39 : decode cX4_addCode 39 = .ok (.new 48, 3) := by decide +kernel
theorem dX4_addCode_42 : decode cX4_addCode 42 = .ok (.dup, 1) := by decide +kernel
theorem dX4_addCode_43 : decode cX4_addCode 43 = .ok (.ldc 58, 2) := by decide +kernel
theorem dX4_addCode_45 : decode cX4_addCode 45 = .ok (.invokespecial 52, 3) := by decide +kernel
theorem dX4_addCode_48 : decode cX4_addCode 48 = .ok (.athrow, 1) := by decide +kernel
theorem dX4_addCode_49 : decode cX4_addCode 49 = .ok (.iload_n 3, 1) := by decide +kernel
theorem dX4_addCode_50 : decode cX4_addCode 50 = .ok (.iconst (-1), 1) := by decide +kernel
theorem dX4_addCode_51 : decode cX4_addCode 51 = .ok (.if_icmp .ne 19, 3) := by decide +kernel
theorem dX4_addCode_54 : decode cX4_addCode 54 = .ok (.iload 4, 2) := by decide +kernel
theorem dX4_addCode_56 : decode cX4_addCode 56 = .ok (.iconst (-1), 1) := by decide +kernel
theorem dX4_addCode_57 : decode cX4_addCode 57 = .ok (.if_icmp .eq 13, 3) := by decide +kernel
theorem dX4_addCode_60 : decode cX4_addCode 60 = .ok (.new 48, 3) := by decide +kernel
theorem dX4_addCode_63 : decode cX4_addCode 63 = .ok (.dup, 1) := by decide +kernel
theorem dX4_addCode_64 : decode cX4_addCode 64 = .ok (.ldc 60, 2) := by decide +kernel
theorem dX4_addCode_66 : decode cX4_addCode 66 = .ok (.invokespecial 52, 3) := by decide +kernel
theorem dX4_addCode_69 : decode cX4_addCode 69 = .ok (.athrow, 1) := by decide +kernel
theorem dX4_addCode_70 : decode cX4_addCode 70 = .ok (.aload_n 0, 1) := by decide +kernel
theorem dX4_addCode_71 : decode cX4_addCode 71 = .ok (.getfield 10, 3) := by decide +kernel
theorem dX4_addCode_74 : decode cX4_addCode 74 = .ok (.invokevirtual 62, 3) := by decide +kernel
theorem dX4_addCode_77 : decode cX4_addCode 77 = .ok (.ifCond .eq 13, 3) := by decide +kernel
theorem dX4_addCode_80 : decode cX4_addCode 80 = .ok (.new 66, 3) := by decide +kernel
theorem dX4_addCode_83 : decode cX4_addCode 83 = .ok (.dup, 1) := by decide +kernel
theorem dX4_addCode_84 : decode cX4_addCode 84 = .ok (.ldc 68, 2) := by decide +kernel
theorem dX4_addCode_86 : decode cX4_addCode 86 = .ok (.invokespecial 70, 3) := by decide +kernel
theorem dX4_addCode_89 : decode cX4_addCode 89 = .ok (.athrow, 1) := by decide +kernel
theorem dX4_addCode_90 : decode cX4_addCode 90 = .ok (.aload_n 0, 1) := by decide +kernel
theorem dX4_addCode_91 : decode cX4_addCode 91 = .ok (.getfield 10, 3) := by decide +kernel
theorem dX4_addCode_94 : decode cX4_addCode 94 = .ok (.iload_n 1, 1) := by decide +kernel
theorem dX4_addCode_95 : decode cX4_addCode 95 = .ok (.iload_n 2, 1) := by decide +kernel
theorem dX4_addCode_96 : decode cX4_addCode 96 = .ok (.iload_n 3, 1) := by decide +kernel
theorem dX4_addCode_97 : decode cX4_addCode 97 = .ok (.iload 4, 2) := by decide +kernel
theorem dX4_addCode_99 : decode cX4_addCode 99 = .ok (.invokevirtual 71, 3) := by decide +kernel
theorem dX4_addCode_102 : decode cX4_addCode 102 = .ok (.ifCond .eq 13, 3) := by decide +kernel
theorem dX4_addCode_105 : decode cX4_addCode 105 = .ok (.new 66, 3) := by decide +kernel
theorem dX4_addCode_108 : decode cX4_addCode 108 = .ok (.dup, 1) := by decide +kernel
theorem dX4_addCode_109 : decode cX4_addCode 109 = .ok (.ldc 75, 2) := by decide +kernel
theorem dX4_addCode_111 : decode cX4_addCode 111 = .ok (.invokespecial 70, 3) := by decide +kernel
theorem dX4_addCode_114 : decode cX4_addCode 114 = .ok (.athrow, 1) := by decide +kernel
theorem dX4_addCode_115 : decode cX4_addCode 115 = .ok (.aload_n 0, 1) := by decide +kernel
theorem dX4_addCode_116 : decode cX4_addCode 116 = .ok (.getfield 10, 3) := by decide +kernel
theorem dX4_addCode_119 : decode cX4_addCode 119 = .ok (.iload_n 1, 1) := by decide +kernel
theorem dX4_addCode_120 : decode cX4_addCode 120 = .ok (.iload_n 2, 1) := by decide +kernel
theorem dX4_addCode_121 : decode cX4_addCode 121 = .ok (.iload_n 3, 1) := by decide +kernel
theorem dX4_addCode_122 : decode cX4_addCode 122 = .ok (.iload 4, 2) := by decide +kernel
theorem dX4_addCode_124 : decode cX4_addCode 124 = .ok (.invokevirtual 77, 3) := by decide +kernel
theorem dX4_addCode_127 : decode cX4_addCode 127 = .ok (.aload_n 0, 1) := by decide +kernel
theorem dX4_addCode_128 : decode cX4_addCode 128 = .ok (.invokevirtual 81, 3) := by decide +kernel
theorem dX4_addCode_131 : decode cX4_addCode 131 = .ok (.aload_n 0, 1) := by decide +kernel
theorem dX4_addCode_132 : decode cX4_addCode 132 = .ok (.getfield 10, 3) := by decide +kernel
theorem dX4_addCode_135 : decode cX4_addCode 135 = .ok (.invokevirtual 84, 3) := by decide +kernel
theorem dX4_addCode_138 : decode cX4_addCode 138 = .ok (.iconst 1, 1) := by decide +kernel
theorem dX4_addCode_139 : decode cX4_addCode 139 = .ok (.isub, 1) := by decide +kernel
theorem dX4_addCode_140 : decode cX4_addCode 140 = .ok (.ireturn, 1) := by decide +kernel
set_option maxRecDepth 20000 in
theorem ggX4_dropCode_X0_has : GoodIn wsX4_dropCode wsX0_has := goodIn_r _ [8, 9, 105, 106, 107] (by decide +kernel) (by decide +kernel)
set_option maxRecDepth 20000 in
theorem gX4_dropCode_X0_has : GoodIn wsX4_dropCode (wsV RX4 88 RX0 yX0_has wsX0_has) := goodIn_app (goodIn_of _ (by decide +kernel)) ggX4_dropCode_X0_has
set_option maxRecDepth 20000 in
theorem ggX4_dropCode_X0_wordsIn : GoodIn wsX4_dropCode wsX0_wordsIn := goodIn_r _ [13, 14, 15, 5, 6, 7, 8, 9, 105, 106, 107] (by decide +kernel) (by decide +kernel)
set_option maxRecDepth 20000 in
theorem gX4_dropCode_X0_wordsIn : GoodIn wsX4_dropCode (wsV RX4 96 RX0 yX0_wordsIn wsX0_wordsIn) := goodIn_app (goodIn_of _ (by decide +kernel)) ggX4_dropCode_X0_wordsIn
set_option maxRecDepth 20000 in
theorem ggX4_dropCode_X0_remove : GoodIn wsX4_dropCode wsX0_remove := goodIn_r _ [19, 9, 20, 21, 22, 23, 24, 14, 15, 5, 6, 7, 8, 105, 106, 107] (by decide +kernel) (by decide +kernel)
set_option maxRecDepth 20000 in
theorem gX4_dropCode_X0_remove : GoodIn wsX4_dropCode (wsV RX4 100 RX0 yX0_remove wsX0_remove) := goodIn_app (goodIn_of _ (by decide +kernel)) ggX4_dropCode_X0_remove
set_option maxRecDepth 20000 in
theorem ggX4_dropCode_X4_shorten : GoodIn wsX4_dropCode wsX4_shorten := goodIn_r _ [29, 30, 31, 3, 32, 33, 34, 35, 36, 37, 38, 39, 40, 41, 42, 43, 44, 45, 46, 47, 48, 49, 50, 51, 52, 53, 54, 55, 56, 57, 58, 59, 60, 7, 61, 9, 62, 63, 64, 65, 66, 11, 12, 13, 14, 15, 5, 6, 8, 67, 68, 69, 70, 71, 72, 73, 74, 75, 76, 77, 78, 79, 20, 80, 81, 82, 83, 84, 85, 86, 87, 88, 89, 90, 91, 92, 93, 94, 95, 96, 97, 98, 99, 100, 101, 102, 103, 104, 108, 109, 110, 111, 112, 113, 114, 105, 106, 107] (by decide +kernel) (by decide +kernel)
set_option maxRecDepth 20000 in
theorem gX4_dropCode_X4_shorten : GoodIn wsX4_dropCode (wsV RX4 81 RX4 yX4_shorten wsX4_shorten) := goodIn_app (goodIn_of _ (by decide +kernel)) ggX4_dropCode_X4_shorten
theorem dX4_dropCode_0 : decode cX4_dropCode 0 = .ok (.aload_n 0, 1) := by decide +kernel
theorem dX4_dropCode_1 : decode cX4_dropCode 1 = .ok (.getfield 10, 3) := by decide +kernel
theorem dX4_dropCode_4 : decode cX4_dropCode 4 = .ok (.iload_n 1, 1) := by decide +kernel
theorem dX4_dropCode_5 : decode cX4_dropCode 5 = .ok (.invokevirtual 88, 3) := by decide +kernel
theorem dX4_dropCode_8 : decode cX4_dropCode 8 = .ok (.ifCond .ne 13, 3) := by decide +kernel
theorem dX4_dropCode_11 : decode cX4_dropCode 11 = .ok (.new 91, 3) := by decide +kernel
theorem dX4_dropCode_14 : decode cX4_dropCode 14 = .ok (.dup, 1) := by decide +kernel
theorem dX4_dropCode_15 : decode cX4_dropCode 15 = .ok (.ldc 93, 2) := by decide +kernel
theorem dX4_dropCode_17 : decode cX4_dropCode 17 = .ok (.invokespecial 95, 3) := by decide +kernel
theorem dX4_dropCode_20 : decode cX4_dropCode 20 = .ok (.athrow, 1) := by decide +kernel
theorem dX4_dropCode_21 : decode cX4_dropCode 21 = .ok (.aload_n 0, 1) := by decide +kernel
theorem dX4_dropCode_22 : decode cX4_dropCode 22 = .ok (.getfield 10, 3) := by decide +kernel
theorem dX4_dropCode_25 : decode cX4_dropCode 25 = .ok (.iload_n 1, 1) := by decide +kernel
theorem dX4_dropCode_26 : decode cX4_dropCode 26 = .ok (.invokevirtual 96, 3) := by decide +kernel
theorem dX4_dropCode_29 : decode cX4_dropCode 29 = .ok (.istore_n 2, 1) := by decide +kernel
theorem dX4_dropCode_30 : decode cX4_dropCode 30 = .ok (.aload_n 0, 1) := by decide +kernel
theorem dX4_dropCode_31 : decode cX4_dropCode 31 = .ok (.getfield 10, 3) := by decide +kernel
theorem dX4_dropCode_34 : decode cX4_dropCode 34 = .ok (.iload_n 1, 1) := by decide +kernel
theorem dX4_dropCode_35 : decode cX4_dropCode 35 = .ok (.invokevirtual 100, 3) := by decide +kernel
theorem dX4_dropCode_38 : decode cX4_dropCode 38 = .ok (.aload_n 0, 1) := by decide +kernel
theorem dX4_dropCode_39 : decode cX4_dropCode 39 = .ok (.invokevirtual 81, 3) := by decide +kernel
theorem dX4_dropCode_42 : decode cX4_dropCode 42 = .ok (.iload_n 2, 1) := by decide +kernel
theorem dX4_dropCode_43 : decode cX4_dropCode 43 = .ok (.ireturn, 1) := by decide +kernel
set_option maxRecDepth 20000 in
theorem ggX4_codes_X0_size : GoodIn wsX4_codes wsX0_size := goodIn_r _ [6, 7, 18, 19, 20] (by decide +kernel) (by decide +kernel)
set_option maxRecDepth 20000 in
theorem gX4_codes_X0_size : GoodIn wsX4_codes (wsV RX4 84 RX0 yX0_size wsX0_size) := goodIn_app (goodIn_of _ (by decide +kernel)) ggX4_codes_X0_size
theorem dX4_codes_0 : decode cX4_codes 0 = .ok (.aload_n 0, 1) := by decide +kernel
theorem dX4_codes_1 : decode cX4_codes 1 = .ok (.getfield 10, 3) := by decide +kernel
theorem dX4_codes_4 : decode cX4_codes 4 = .ok (.invokevirtual 84, 3) := by decide +kernel
theorem dX4_codes_7 : decode cX4_codes 7 = .ok (.ireturn, 1) := by decide +kernel
set_option maxRecDepth 20000 in
theorem ggX4_lengthOf_X0_has : GoodIn wsX4_lengthOf wsX0_has := goodIn_r _ [8, 9, 26, 27, 28] (by decide +kernel) (by decide +kernel)
set_option maxRecDepth 20000 in
theorem gX4_lengthOf_X0_has : GoodIn wsX4_lengthOf (wsV RX4 88 RX0 yX0_has wsX0_has) := goodIn_app (goodIn_of _ (by decide +kernel)) ggX4_lengthOf_X0_has
set_option maxRecDepth 20000 in
theorem ggX4_lengthOf_X0_wordsIn : GoodIn wsX4_lengthOf wsX0_wordsIn := goodIn_r _ [13, 14, 15, 5, 6, 7, 8, 9, 26, 27, 28] (by decide +kernel) (by decide +kernel)
set_option maxRecDepth 20000 in
theorem gX4_lengthOf_X0_wordsIn : GoodIn wsX4_lengthOf (wsV RX4 96 RX0 yX0_wordsIn wsX0_wordsIn) := goodIn_app (goodIn_of _ (by decide +kernel)) ggX4_lengthOf_X0_wordsIn
theorem dX4_lengthOf_0 : decode cX4_lengthOf 0 = .ok (.aload_n 0, 1) := by decide +kernel
theorem dX4_lengthOf_1 : decode cX4_lengthOf 1 = .ok (.getfield 10, 3) := by decide +kernel
theorem dX4_lengthOf_4 : decode cX4_lengthOf 4 = .ok (.iload_n 1, 1) := by decide +kernel
theorem dX4_lengthOf_5 : decode cX4_lengthOf 5 = .ok (.invokevirtual 88, 3) := by decide +kernel
theorem dX4_lengthOf_8 : decode cX4_lengthOf 8 = .ok (.ifCond .ne 13, 3) := by decide +kernel
theorem dX4_lengthOf_11 : decode cX4_lengthOf 11 = .ok (.new 91, 3) := by decide +kernel
theorem dX4_lengthOf_14 : decode cX4_lengthOf 14 = .ok (.dup, 1) := by decide +kernel
theorem dX4_lengthOf_15 : decode cX4_lengthOf 15 = .ok (.ldc 93, 2) := by decide +kernel
theorem dX4_lengthOf_17 : decode cX4_lengthOf 17 = .ok (.invokespecial 95, 3) := by decide +kernel
theorem dX4_lengthOf_20 : decode cX4_lengthOf 20 = .ok (.athrow, 1) := by decide +kernel
theorem dX4_lengthOf_21 : decode cX4_lengthOf 21 = .ok (.aload_n 0, 1) := by decide +kernel
theorem dX4_lengthOf_22 : decode cX4_lengthOf 22 = .ok (.getfield 10, 3) := by decide +kernel
theorem dX4_lengthOf_25 : decode cX4_lengthOf 25 = .ok (.iload_n 1, 1) := by decide +kernel
theorem dX4_lengthOf_26 : decode cX4_lengthOf 26 = .ok (.invokevirtual 96, 3) := by decide +kernel
theorem dX4_lengthOf_29 : decode cX4_lengthOf 29 = .ok (.ireturn, 1) := by decide +kernel
set_option maxRecDepth 20000 in
theorem ggX4_write_X4_isType : GoodIn wsX4_write wsX4_isType := goodIn_r _ [9] (by decide +kernel) (by decide +kernel)
set_option maxRecDepth 20000 in
theorem gX4_write_X4_isType : GoodIn wsX4_write (va_wsS RX4 44 yX4_isType wsX4_isType) := goodIn_app (goodIn_of _ (by decide +kernel)) ggX4_write_X4_isType
set_option maxRecDepth 20000 in
theorem ggX4_write_X1_isFull : GoodIn wsX4_write wsX1_isFull := goodIn_r _ [14, 15, 110, 111] (by decide +kernel) (by decide +kernel)
set_option maxRecDepth 20000 in
theorem gX4_write_X1_isFull : GoodIn wsX4_write (wsV RX4 106 RX1 yX1_isFull wsX1_isFull) := goodIn_app (goodIn_of _ (by decide +kernel)) ggX4_write_X1_isFull
set_option maxRecDepth 20000 in
theorem ggX4_write_X1_append : GoodIn wsX4_write wsX1_append := goodIn_r _ [19, 20, 15, 21, 11, 12, 13, 14, 110, 111] (by decide +kernel) (by decide +kernel)
set_option maxRecDepth 20000 in
theorem gX4_write_X1_append : GoodIn wsX4_write (wsV RX4 109 RX1 yX1_append wsX1_append) := goodIn_app (goodIn_of _ (by decide +kernel)) ggX4_write_X1_append
set_option maxRecDepth 20000 in
theorem ggX4_write_X4_shorten : GoodIn wsX4_write wsX4_shorten := goodIn_r _ [25, 26, 5, 27, 28, 29, 30, 31, 32, 33, 34, 35, 36, 37, 38, 39, 40, 41, 42, 43, 44, 13, 45, 15, 46, 47, 48, 49, 50, 51, 52, 53, 54, 55, 56, 57, 58, 59, 60, 61, 62, 63, 64, 65, 66, 67, 68, 69, 70, 71, 72, 73, 74, 75, 76, 77, 78, 20, 79, 80, 81, 82, 83, 84, 85, 86, 87, 88, 89, 90, 91, 92, 93, 94, 95, 96, 97, 98, 100, 101, 102, 103, 104, 105, 106, 107, 108, 109, 112, 113, 114, 115, 116, 110, 111, 117, 118, 119] (by decide +kernel) (by decide +kernel)
set_option maxRecDepth 20000 in
theorem gX4_write_X4_shorten : GoodIn wsX4_write (wsV RX4 81 RX4 yX4_shorten wsX4_shorten) := goodIn_app (goodIn_of _ (by decide +kernel)) ggX4_write_X4_shorten
set_option maxRecDepth 20000 in
theorem ggX4_write_X1_size : GoodIn wsX4_write wsX1_size := goodIn_r _ [45, 15, 110, 111] (by decide +kernel) (by decide +kernel)
set_option maxRecDepth 20000 in
theorem gX4_write_X1_size : GoodIn wsX4_write (wsV RX4 111 RX1 yX1_size wsX1_size) := goodIn_app (goodIn_of _ (by decide +kernel)) ggX4_write_X1_size
theorem dX4_write_0 : decode cX4_write 0 = .ok (.iload_n 1, 1) := by decide +kernel
theorem dX4_write_1 : decode cX4_write 1 = .ok (.invokestatic 44, 3) := by decide +kernel
theorem dX4_write_4 : decode cX4_write 4 = .ok (.ifCond .ne 13, 3) := by decide +kernel
theorem dX4_write_7 : decode cX4_write 7 = .ok (.new 48, 3) := by decide +kernel
theorem dX4_write_10 : decode cX4_write 10 = .ok (.dup, 1) := by decide +kernel
theorem dX4_write_11 : decode cX4_write 11 = .ok (.ldc 104, 2) := by decide +kernel
theorem dX4_write_13 : decode cX4_write 13 = .ok (.invokespecial 52, 3) := by decide +kernel
theorem dX4_write_16 : decode cX4_write 16 = .ok (.athrow, 1) := by decide +kernel
theorem dX4_write_17 : decode cX4_write 17 = .ok (.aload_n 0, 1) := by decide +kernel
theorem dX4_write_18 : decode cX4_write 18 = .ok (.getfield 19, 3) := by decide +kernel
theorem dX4_write_21 : decode cX4_write 21 = .ok (.invokevirtual 106, 3) := by decide +kernel
theorem dX4_write_24 : decode cX4_write 24 = .ok (.ifCond .eq 13, 3) := by decide +kernel
theorem dX4_write_27 : decode cX4_write 27 = .ok (.new 66, 3) := by decide +kernel
theorem dX4_write_30 : decode cX4_write 30 = .ok (.dup, 1) := by decide +kernel
theorem dX4_write_31 : decode cX4_write 31 = .ok (.ldc 107, 2) := by decide +kernel
theorem dX4_write_33 : decode cX4_write 33 = .ok (.invokespecial 70, 3) := by decide +kernel
theorem dX4_write_36 : decode cX4_write 36 = .ok (.athrow, 1) := by decide +kernel
theorem dX4_write_37 : decode cX4_write 37 = .ok (.aload_n 0, 1) := by decide +kernel
theorem dX4_write_38 : decode cX4_write 38 = .ok (.getfield 19, 3) := by decide +kernel
theorem dX4_write_41 : decode cX4_write 41 = .ok (.iload_n 1, 1) := by decide +kernel
theorem dX4_write_42 : decode cX4_write 42 = .ok (.invokevirtual 109, 3) := by decide +kernel
theorem dX4_write_45 : decode cX4_write 45 = .ok (.aload_n 0, 1) := by decide +kernel
theorem dX4_write_46 : decode cX4_write 46 = .ok (.invokevirtual 81, 3) := by decide +kernel
theorem dX4_write_49 : decode cX4_write 49 = .ok (.aload_n 0, 1) := by decide +kernel
theorem dX4_write_50 : decode cX4_write 50 = .ok (.getfield 19, 3) := by decide +kernel
theorem dX4_write_53 : decode cX4_write 53 = .ok (.invokevirtual 111, 3) := by decide +kernel
theorem dX4_write_56 : decode cX4_write 56 = .ok (.ireturn, 1) := by decide +kernel
set_option maxRecDepth 20000 in
theorem ggX4_strike_X1_size : GoodIn wsX4_strike wsX1_size := goodIn_r _ [8, 9, 104, 105] (by decide +kernel) (by decide +kernel)
set_option maxRecDepth 20000 in
theorem gX4_strike_X1_size : GoodIn wsX4_strike (wsV RX4 111 RX1 yX1_size wsX1_size) := goodIn_app (goodIn_of _ (by decide +kernel)) ggX4_strike_X1_size
set_option maxRecDepth 20000 in
theorem ggX4_strike_X1_typeAt : GoodIn wsX4_strike wsX1_typeAt := goodIn_r _ [13, 14, 15, 16, 17, 7, 18, 9, 104, 105] (by decide +kernel) (by decide +kernel)
set_option maxRecDepth 20000 in
theorem gX4_strike_X1_typeAt : GoodIn wsX4_strike (wsV RX4 114 RX1 yX1_typeAt wsX1_typeAt) := goodIn_app (goodIn_of _ (by decide +kernel)) ggX4_strike_X1_typeAt
set_option maxRecDepth 20000 in
theorem ggX4_strike_X1_removeLast : GoodIn wsX4_strike wsX1_removeLast := goodIn_r _ [22, 9, 23, 24, 25, 26, 104, 105] (by decide +kernel) (by decide +kernel)
set_option maxRecDepth 20000 in
theorem gX4_strike_X1_removeLast : GoodIn wsX4_strike (wsV RX4 117 RX1 yX1_removeLast wsX1_removeLast) := goodIn_app (goodIn_of _ (by decide +kernel)) ggX4_strike_X1_removeLast
set_option maxRecDepth 20000 in
theorem ggX4_strike_X4_shorten : GoodIn wsX4_strike wsX4_shorten := goodIn_r _ [31, 32, 3, 33, 34, 35, 36, 37, 38, 39, 40, 41, 42, 43, 44, 25, 45, 46, 47, 5, 6, 7, 8, 9, 48, 49, 50, 51, 52, 53, 54, 55, 56, 57, 58, 59, 60, 61, 62, 63, 64, 65, 66, 67, 68, 69, 70, 71, 72, 15, 16, 17, 18, 73, 11, 12, 13, 14, 74, 75, 76, 77, 78, 79, 80, 81, 82, 83, 84, 85, 86, 87, 88, 89, 90, 91, 92, 93, 94, 95, 96, 97, 98, 99, 100, 101, 102, 103, 106, 107, 108, 109, 110, 104, 105, 111, 112, 113] (by decide +kernel) (by decide +kernel)
set_option maxRecDepth 20000 in
theorem gX4_strike_X4_shorten : GoodIn wsX4_strike (wsV RX4 81 RX4 yX4_shorten wsX4_shorten) := goodIn_app (goodIn_of _ (by decide +kernel)) ggX4_strike_X4_shorten
theorem dX4_strike_0 : decode cX4_strike 0 = .ok (.aload_n 0, 1) := by decide +kernel
theorem dX4_strike_1 : decode cX4_strike 1 = .ok (.getfield 19, 3) := by decide +kernel
theorem dX4_strike_4 : decode cX4_strike 4 = .ok (.invokevirtual 111, 3) := by decide +kernel
theorem dX4_strike_7 : decode cX4_strike 7 = .ok (.ifCond .ne 13, 3) := by decide +kernel
theorem dX4_strike_10 : decode cX4_strike 10 = .ok (.new 66, 3) := by decide +kernel
theorem dX4_strike_13 : decode cX4_strike 13 = .ok (.dup, 1) := by decide +kernel
theorem dX4_strike_14 : decode cX4_strike 14 = .ok (.ldc 112, 2) := by decide +kernel
theorem dX4_strike_16 : decode cX4_strike 16 = .ok (.invokespecial 70, 3) := by decide +kernel
theorem dX4_strike_19 : decode cX4_strike 19 = .ok (.athrow, 1) := by decide +kernel
theorem dX4_strike_20 : decode cX4_strike 20 = .ok (.aload_n 0, 1) := by decide +kernel
theorem dX4_strike_21 : decode cX4_strike 21 = .ok (.getfield 19, 3) := by decide +kernel
theorem dX4_strike_24 : decode cX4_strike 24 = .ok (.aload_n 0, 1) := by decide +kernel
theorem dX4_strike_25 : decode cX4_strike 25 = .ok (.getfield 19, 3) := by decide +kernel
theorem dX4_strike_28 : decode cX4_strike 28 = .ok (.invokevirtual 111, 3) := by decide +kernel
theorem dX4_strike_31 : decode cX4_strike 31 = .ok (.iconst 1, 1) := by decide +kernel
theorem dX4_strike_32 : decode cX4_strike 32 = .ok (.isub, 1) := by decide +kernel
theorem dX4_strike_33 : decode cX4_strike 33 = .ok (.invokevirtual 114, 3) := by decide +kernel
theorem dX4_strike_36 : decode cX4_strike 36 = .ok (.istore_n 1, 1) := by decide +kernel
theorem dX4_strike_37 : decode cX4_strike 37 = .ok (.aload_n 0, 1) := by decide +kernel
theorem dX4_strike_38 : decode cX4_strike 38 = .ok (.getfield 19, 3) := by decide +kernel
theorem dX4_strike_41 : decode cX4_strike 41 = .ok (.invokevirtual 117, 3) := by decide +kernel
theorem dX4_strike_44 : decode cX4_strike 44 = .ok (.aload_n 0, 1) := by decide +kernel
theorem dX4_strike_45 : decode cX4_strike 45 = .ok (.invokevirtual 81, 3) := by decide +kernel
theorem dX4_strike_48 : decode cX4_strike 48 = .ok (.iload_n 1, 1) := by decide +kernel
theorem dX4_strike_49 : decode cX4_strike 49 = .ok (.ireturn, 1) := by decide +kernel
set_option maxRecDepth 20000 in
theorem ggX4_clear_X1_size : GoodIn wsX4_clear wsX1_size := goodIn_r _ [6, 7, 98, 99] (by decide +kernel) (by decide +kernel)
set_option maxRecDepth 20000 in
theorem gX4_clear_X1_size : GoodIn wsX4_clear (wsV RX4 111 RX1 yX1_size wsX1_size) := goodIn_app (goodIn_of _ (by decide +kernel)) ggX4_clear_X1_size
set_option maxRecDepth 20000 in
theorem ggX4_clear_X1_removeAll : GoodIn wsX4_clear wsX1_removeAll := goodIn_r _ [11, 7, 98, 99] (by decide +kernel) (by decide +kernel)
set_option maxRecDepth 20000 in
theorem gX4_clear_X1_removeAll : GoodIn wsX4_clear (wsV RX4 120 RX1 yX1_removeAll wsX1_removeAll) := goodIn_app (goodIn_of _ (by decide +kernel)) ggX4_clear_X1_removeAll
set_option maxRecDepth 20000 in
theorem ggX4_clear_X4_shorten : GoodIn wsX4_clear wsX4_shorten := goodIn_r _ [16, 17, 1, 18, 19, 20, 21, 22, 23, 24, 25, 26, 27, 28, 29, 30, 31, 32, 33, 3, 4, 5, 6, 7, 34, 35, 36, 37, 38, 39, 40, 41, 42, 43, 44, 45, 46, 47, 48, 49, 50, 51, 52, 53, 54, 55, 56, 57, 58, 59, 60, 61, 62, 63, 64, 65, 66, 67, 68, 69, 70, 71, 72, 73, 74, 75, 76, 77, 78, 79, 80, 81, 82, 83, 84, 85, 86, 87, 88, 89, 90, 91, 92, 93, 94, 95, 96, 97, 100, 101, 102, 103, 104, 98, 99, 105, 106, 107] (by decide +kernel) (by decide +kernel)
set_option maxRecDepth 20000 in
theorem gX4_clear_X4_shorten : GoodIn wsX4_clear (wsV RX4 81 RX4 yX4_shorten wsX4_shorten) := goodIn_app (goodIn_of _ (by decide +kernel)) ggX4_clear_X4_shorten
theorem dX4_clear_0 : decode cX4_clear 0 = .ok (.aload_n 0, 1) := by decide +kernel
theorem dX4_clear_1 : decode cX4_clear 1 = .ok (.getfield 19, 3) := by decide +kernel
theorem dX4_clear_4 : decode cX4_clear 4 = .ok (.invokevirtual 111, 3) := by decide +kernel
theorem dX4_clear_7 : decode cX4_clear 7 = .ok (.istore_n 1, 1) := by decide +kernel
theorem dX4_clear_8 : decode cX4_clear 8 = .ok (.aload_n 0, 1) := by decide +kernel
theorem dX4_clear_9 : decode cX4_clear 9 = .ok (.getfield 19, 3) := by decide +kernel
theorem dX4_clear_12 : decode cX4_clear 12 = .ok (.invokevirtual 120, 3) := by decide +kernel
theorem dX4_clear_15 : decode cX4_clear 15 = .ok (.aload_n 0, 1) := by decide +kernel
theorem dX4_clear_16 : decode cX4_clear 16 = .ok (.invokevirtual 81, 3) := by decide +kernel
theorem dX4_clear_19 : decode cX4_clear 19 = .ok (.iload_n 1, 1) := by decide +kernel
theorem dX4_clear_20 : decode cX4_clear 20 = .ok (.ireturn, 1) := by decide +kernel
set_option maxRecDepth 20000 in
theorem ggX4_words_X1_size : GoodIn wsX4_words wsX1_size := goodIn_r _ [6, 7, 18, 19] (by decide +kernel) (by decide +kernel)
set_option maxRecDepth 20000 in
theorem gX4_words_X1_size : GoodIn wsX4_words (wsV RX4 111 RX1 yX1_size wsX1_size) := goodIn_app (goodIn_of _ (by decide +kernel)) ggX4_words_X1_size
theorem dX4_words_0 : decode cX4_words 0 = .ok (.aload_n 0, 1) := by decide +kernel
theorem dX4_words_1 : decode cX4_words 1 = .ok (.getfield 19, 3) := by decide +kernel
theorem dX4_words_4 : decode cX4_words 4 = .ok (.invokevirtual 111, 3) := by decide +kernel
theorem dX4_words_7 : decode cX4_words 7 = .ok (.ireturn, 1) := by decide +kernel
set_option maxRecDepth 20000 in
theorem ggX4_typeOf_X1_has : GoodIn wsX4_typeOf wsX1_has := goodIn_r _ [8, 9, 26, 27] (by decide +kernel) (by decide +kernel)
set_option maxRecDepth 20000 in
theorem gX4_typeOf_X1_has : GoodIn wsX4_typeOf (wsV RX4 123 RX1 yX1_has wsX1_has) := goodIn_app (goodIn_of _ (by decide +kernel)) ggX4_typeOf_X1_has
set_option maxRecDepth 20000 in
theorem ggX4_typeOf_X1_typeAt : GoodIn wsX4_typeOf wsX1_typeAt := goodIn_r _ [13, 14, 15, 5, 6, 7, 8, 9, 26, 27] (by decide +kernel) (by decide +kernel)
set_option maxRecDepth 20000 in
theorem gX4_typeOf_X1_typeAt : GoodIn wsX4_typeOf (wsV RX4 114 RX1 yX1_typeAt wsX1_typeAt) := goodIn_app (goodIn_of _ (by decide +kernel)) ggX4_typeOf_X1_typeAt
theorem dX4_typeOf_0 : decode cX4_typeOf 0 = .ok (.aload_n 0, 1) := by decide +kernel
theorem dX4_typeOf_1 : decode cX4_typeOf 1 = .ok (.getfield 19, 3) := by decide +kernel
theorem dX4_typeOf_4 : decode cX4_typeOf 4 = .ok (.iload_n 1, 1) := by decide +kernel
theorem dX4_typeOf_5 : decode cX4_typeOf 5 = .ok (.invokevirtual 123, 3) := by decide +kernel
theorem dX4_typeOf_8 : decode cX4_typeOf 8 = .ok (.ifCond .ne 13, 3) := by decide +kernel
theorem dX4_typeOf_11 : decode cX4_typeOf 11 = .ok (.new 91, 3) := by decide +kernel
theorem dX4_typeOf_14 : decode cX4_typeOf 14 = .ok (.dup, 1) := by decide +kernel
theorem dX4_typeOf_15 : decode cX4_typeOf 15 = .ok (.ldc 124, 2) := by decide +kernel
theorem dX4_typeOf_17 : decode cX4_typeOf 17 = .ok (.invokespecial 95, 3) := by decide +kernel
theorem dX4_typeOf_20 : decode cX4_typeOf 20 = .ok (.athrow, 1) := by decide +kernel
theorem dX4_typeOf_21 : decode cX4_typeOf 21 = .ok (.aload_n 0, 1) := by decide +kernel
theorem dX4_typeOf_22 : decode cX4_typeOf 22 = .ok (.getfield 19, 3) := by decide +kernel
theorem dX4_typeOf_25 : decode cX4_typeOf 25 = .ok (.iload_n 1, 1) := by decide +kernel
theorem dX4_typeOf_26 : decode cX4_typeOf 26 = .ok (.invokevirtual 114, 3) := by decide +kernel
theorem dX4_typeOf_29 : decode cX4_typeOf 29 = .ok (.ireturn, 1) := by decide +kernel
set_option maxRecDepth 20000 in
theorem ggX4_groups_X2_size : GoodIn wsX4_groups wsX2_size := goodIn_r _ [6, 7, 18, 19, 20, 21, 22] (by decide +kernel) (by decide +kernel)
set_option maxRecDepth 20000 in
theorem gX4_groups_X2_size : GoodIn wsX4_groups (wsV RX4 126 RX2 yX2_size wsX2_size) := goodIn_app (goodIn_of _ (by decide +kernel)) ggX4_groups_X2_size
theorem dX4_groups_0 : decode cX4_groups 0 = .ok (.aload_n 0, 1) := by decide +kernel
theorem dX4_groups_1 : decode cX4_groups 1 = .ok (.getfield 26, 3) := by decide +kernel
theorem dX4_groups_4 : decode cX4_groups 4 = .ok (.invokevirtual 126, 3) := by decide +kernel
theorem dX4_groups_7 : decode cX4_groups 7 = .ok (.ireturn, 1) := by decide +kernel
set_option maxRecDepth 20000 in
theorem ggX4_codeOf_X2_has : GoodIn wsX4_codeOf wsX2_has := goodIn_r _ [8, 9, 27, 28, 29, 30, 31] (by decide +kernel) (by decide +kernel)
set_option maxRecDepth 20000 in
theorem gX4_codeOf_X2_has : GoodIn wsX4_codeOf (wsV RX4 127 RX2 yX2_has wsX2_has) := goodIn_app (goodIn_of _ (by decide +kernel)) ggX4_codeOf_X2_has
set_option maxRecDepth 20000 in
theorem ggX4_codeOf_X2_codeAt : GoodIn wsX4_codeOf wsX2_codeAt := goodIn_r _ [13, 14, 15, 16, 5, 6, 7, 8, 9, 27, 28, 29, 30, 31] (by decide +kernel) (by decide +kernel)
set_option maxRecDepth 20000 in
theorem gX4_codeOf_X2_codeAt : GoodIn wsX4_codeOf (wsV RX4 130 RX2 yX2_codeAt wsX2_codeAt) := goodIn_app (goodIn_of _ (by decide +kernel)) ggX4_codeOf_X2_codeAt
theorem dX4_codeOf_0 : decode cX4_codeOf 0 = .ok (.aload_n 0, 1) := by decide +kernel
theorem dX4_codeOf_1 : decode cX4_codeOf 1 = .ok (.getfield 26, 3) := by decide +kernel
theorem dX4_codeOf_4 : decode cX4_codeOf 4 = .ok (.iload_n 1, 1) := by decide +kernel
theorem dX4_codeOf_5 : decode cX4_codeOf 5 = .ok (.invokevirtual 127, 3) := by decide +kernel
theorem dX4_codeOf_8 : decode cX4_codeOf 8 = .ok (.ifCond .ne 13, 3) := by decide +kernel
theorem dX4_codeOf_11 : decode cX4_codeOf 11 = .ok (.new 91, 3) := by decide +kernel
theorem dX4_codeOf_14 : decode cX4_codeOf 14 = .ok (.dup, 1) := by decide +kernel
theorem dX4_codeOf_15 : decode cX4_codeOf 15 = .ok (.ldc 128, 2) := by decide +kernel
theorem dX4_codeOf_17 : decode cX4_codeOf 17 = .ok (.invokespecial 95, 3) := by decide +kernel
theorem dX4_codeOf_20 : decode cX4_codeOf 20 = .ok (.athrow, 1) := by decide +kernel
theorem dX4_codeOf_21 : decode cX4_codeOf 21 = .ok (.aload_n 0, 1) := by decide +kernel
theorem dX4_codeOf_22 : decode cX4_codeOf 22 = .ok (.getfield 26, 3) := by decide +kernel
theorem dX4_codeOf_25 : decode cX4_codeOf 25 = .ok (.iload_n 1, 1) := by decide +kernel
theorem dX4_codeOf_26 : decode cX4_codeOf 26 = .ok (.invokevirtual 130, 3) := by decide +kernel
theorem dX4_codeOf_29 : decode cX4_codeOf 29 = .ok (.ireturn, 1) := by decide +kernel
set_option maxRecDepth 20000 in
theorem ggX4_startOf_X2_has : GoodIn wsX4_startOf wsX2_has := goodIn_r _ [8, 9, 26, 27, 28, 29, 30] (by decide +kernel) (by decide +kernel)
set_option maxRecDepth 20000 in
theorem gX4_startOf_X2_has : GoodIn wsX4_startOf (wsV RX4 127 RX2 yX2_has wsX2_has) := goodIn_app (goodIn_of _ (by decide +kernel)) ggX4_startOf_X2_has
set_option maxRecDepth 20000 in
theorem ggX4_startOf_X2_startAt : GoodIn wsX4_startOf wsX2_startAt := goodIn_r _ [13, 14, 15, 5, 6, 7, 8, 9, 26, 27, 28, 29, 30] (by decide +kernel) (by decide +kernel)
set_option maxRecDepth 20000 in
theorem gX4_startOf_X2_startAt : GoodIn wsX4_startOf (wsV RX4 133 RX2 yX2_startAt wsX2_startAt) := goodIn_app (goodIn_of _ (by decide +kernel)) ggX4_startOf_X2_startAt
theorem dX4_startOf_0 : decode cX4_startOf 0 = .ok (.aload_n 0, 1) := by decide +kernel
theorem dX4_startOf_1 : decode cX4_startOf 1 = .ok (.getfield 26, 3) := by decide +kernel
theorem dX4_startOf_4 : decode cX4_startOf 4 = .ok (.iload_n 1, 1) := by decide +kernel
theorem dX4_startOf_5 : decode cX4_startOf 5 = .ok (.invokevirtual 127, 3) := by decide +kernel
theorem dX4_startOf_8 : decode cX4_startOf 8 = .ok (.ifCond .ne 13, 3) := by decide +kernel
theorem dX4_startOf_11 : decode cX4_startOf 11 = .ok (.new 91, 3) := by decide +kernel
theorem dX4_startOf_14 : decode cX4_startOf 14 = .ok (.dup, 1) := by decide +kernel
theorem dX4_startOf_15 : decode cX4_startOf 15 = .ok (.ldc 128, 2) := by decide +kernel
theorem dX4_startOf_17 : decode cX4_startOf 17 = .ok (.invokespecial 95, 3) := by decide +kernel
theorem dX4_startOf_20 : decode cX4_startOf 20 = .ok (.athrow, 1) := by decide +kernel
theorem dX4_startOf_21 : decode cX4_startOf 21 = .ok (.aload_n 0, 1) := by decide +kernel
theorem dX4_startOf_22 : decode cX4_startOf 22 = .ok (.getfield 26, 3) := by decide +kernel
theorem dX4_startOf_25 : decode cX4_startOf 25 = .ok (.iload_n 1, 1) := by decide +kernel
theorem dX4_startOf_26 : decode cX4_startOf 26 = .ok (.invokevirtual 133, 3) := by decide +kernel
theorem dX4_startOf_29 : decode cX4_startOf 29 = .ok (.ireturn, 1) := by decide +kernel
set_option maxRecDepth 20000 in
theorem ggX4_usesOf_X0_has : GoodIn wsX4_usesOf wsX0_has := goodIn_r _ [9, 10, 37, 38, 39] (by decide +kernel) (by decide +kernel)
set_option maxRecDepth 20000 in
theorem gX4_usesOf_X0_has : GoodIn wsX4_usesOf (wsV RX4 88 RX0 yX0_has wsX0_has) := goodIn_app (goodIn_of _ (by decide +kernel)) ggX4_usesOf_X0_has
set_option maxRecDepth 20000 in
theorem ggX4_usesOf_X2_groupsWith : GoodIn wsX4_usesOf wsX2_groupsWith := goodIn_r _ [15, 16, 17, 18, 19, 14, 20, 21, 22, 23, 24, 25, 26, 40, 41, 42, 43, 44] (by decide +kernel) (by decide +kernel)
set_option maxRecDepth 20000 in
theorem gX4_usesOf_X2_groupsWith : GoodIn wsX4_usesOf (wsV RX4 136 RX2 yX2_groupsWith wsX2_groupsWith) := goodIn_app (goodIn_of _ (by decide +kernel)) ggX4_usesOf_X2_groupsWith
theorem dX4_usesOf_0 : decode cX4_usesOf 0 = .ok (.aload_n 0, 1) := by decide +kernel
theorem dX4_usesOf_1 : decode cX4_usesOf 1 = .ok (.getfield 10, 3) := by decide +kernel
theorem dX4_usesOf_4 : decode cX4_usesOf 4 = .ok (.iload_n 1, 1) := by decide +kernel
theorem dX4_usesOf_5 : decode cX4_usesOf 5 = .ok (.invokevirtual 88, 3) := by decide +kernel
theorem dX4_usesOf_8 : decode cX4_usesOf 8 = .ok (.ifCond .ne 13, 3) := by decide +kernel
theorem dX4_usesOf_11 : decode cX4_usesOf 11 = .ok (.new 91, 3) := by decide +kernel
theorem dX4_usesOf_14 : decode cX4_usesOf 14 = .ok (.dup, 1) := by decide +kernel
theorem dX4_usesOf_15 : decode cX4_usesOf 15 = .ok (.ldc 93, 2) := by decide +kernel
theorem dX4_usesOf_17 : decode cX4_usesOf 17 = .ok (.invokespecial 95, 3) := by decide +kernel
theorem dX4_usesOf_20 : decode cX4_usesOf 20 = .ok (.athrow, 1) := by decide +kernel
theorem dX4_usesOf_21 : decode cX4_usesOf 21 = .ok (.aload_n 0, 1) := by decide +kernel
theorem dX4_usesOf_22 : decode cX4_usesOf 22 = .ok (.getfield 26, 3) := by decide +kernel
theorem dX4_usesOf_25 : decode cX4_usesOf 25 = .ok (.iload_n 1, 1) := by decide +kernel
theorem dX4_usesOf_26 : decode cX4_usesOf 26 = .ok (.invokevirtual 136, 3) := by decide +kernel
theorem dX4_usesOf_29 : decode cX4_usesOf 29 = .ok (.ireturn, 1) := by decide +kernel
set_option maxRecDepth 20000 in
theorem ggX4_counted_X2_size : GoodIn wsX4_counted wsX2_size := goodIn_r _ [7, 8, 48, 49, 50, 51, 52] (by decide +kernel) (by decide +kernel)
set_option maxRecDepth 20000 in
theorem gX4_counted_X2_size : GoodIn wsX4_counted (wsV RX4 126 RX2 yX2_size wsX2_size) := goodIn_app (goodIn_of _ (by decide +kernel)) ggX4_counted_X2_size
set_option maxRecDepth 20000 in
theorem ggX4_counted_X2_codeAt : GoodIn wsX4_counted wsX2_codeAt := goodIn_r _ [12, 13, 14, 15, 16, 17, 6, 18, 8, 48, 49, 50, 51, 52] (by decide +kernel) (by decide +kernel)
set_option maxRecDepth 20000 in
theorem gX4_counted_X2_codeAt : GoodIn wsX4_counted (wsV RX4 130 RX2 yX2_codeAt wsX2_codeAt) := goodIn_app (goodIn_of _ (by decide +kernel)) ggX4_counted_X2_codeAt
set_option maxRecDepth 20000 in
theorem ggX4_counted_X2_startAt : GoodIn wsX4_counted wsX2_startAt := goodIn_r _ [22, 14, 15, 16, 17, 6, 18, 8, 48, 49, 50, 51, 52] (by decide +kernel) (by decide +kernel)
set_option maxRecDepth 20000 in
theorem gX4_counted_X2_startAt : GoodIn wsX4_counted (wsV RX4 133 RX2 yX2_startAt wsX2_startAt) := goodIn_app (goodIn_of _ (by decide +kernel)) ggX4_counted_X2_startAt
set_option maxRecDepth 20000 in
theorem ggX4_counted_X1_countOf : GoodIn wsX4_counted wsX1_countOf := goodIn_r _ [27, 28, 29, 30, 26, 31, 32, 33, 34, 35, 36, 37, 53, 54] (by decide +kernel) (by decide +kernel)
set_option maxRecDepth 20000 in
theorem gX4_counted_X1_countOf : GoodIn wsX4_counted (wsV RX4 139 RX1 yX1_countOf wsX1_countOf) := goodIn_app (goodIn_of _ (by decide +kernel)) ggX4_counted_X1_countOf
theorem dX4_counted_0 : decode cX4_counted 0 = .ok (.iconst 0, 1) := by decide +kernel
theorem dX4_counted_1 : decode cX4_counted 1 = .ok (.istore_n 1, 1) := by decide +kernel
theorem dX4_counted_2 : decode cX4_counted 2 = .ok (.iconst 0, 1) := by decide +kernel
theorem dX4_counted_3 : decode cX4_counted 3 = .ok (.istore_n 2, 1) := by decide +kernel
theorem dX4_counted_4 : decode cX4_counted 4 = .ok (.iload_n 2, 1) := by decide +kernel
theorem dX4_counted_5 : decode cX4_counted 5 = .ok (.aload_n 0, 1) := by decide +kernel
theorem dX4_counted_6 : decode cX4_counted 6 = .ok (.getfield 26, 3) := by decide +kernel
theorem dX4_counted_9 : decode cX4_counted 9 = .ok (.invokevirtual 126, 3) := by decide +kernel
theorem dX4_counted_12 : decode cX4_counted 12 = .ok (.if_icmp .ge 53, 3) := by decide +kernel
theorem dX4_counted_15 : decode cX4_counted 15 = .ok (.aload_n 0, 1) := by decide +kernel
theorem dX4_counted_16 : decode cX4_counted 16 = .ok (.getfield 26, 3) := by decide +kernel
theorem dX4_counted_19 : decode cX4_counted 19 = .ok (.iload_n 2, 1) := by decide +kernel
theorem dX4_counted_20 : decode cX4_counted 20 = .ok (.invokevirtual 130, 3) := by decide +kernel
theorem dX4_counted_23 : decode cX4_counted 23 = .ok (.iconst (-1), 1) := by decide +kernel
theorem dX4_counted_24 : decode cX4_counted 24 = .ok (.if_icmp .ne 7, 3) := by decide +kernel
theorem dX4_counted_27 : decode cX4_counted 27 = .ok (.iconst 1, 1) := by decide +kernel
theorem dX4_counted_28 : decode cX4_counted 28 = .ok (.goto 4, 3) := by decide +kernel
theorem dX4_counted_31 : decode cX4_counted 31 = .ok (.iconst 0, 1) := by decide +kernel
theorem dX4_counted_32 : decode cX4_counted 32 = .ok (.istore_n 3, 1) := by decide +kernel
theorem dX4_counted_33 : decode cX4_counted 33 = .ok (.iload_n 1, 1) := by decide +kernel
theorem dX4_counted_34 : decode cX4_counted 34 = .ok (.iload_n 3, 1) := by decide +kernel
theorem dX4_counted_35 : decode cX4_counted 35 = .ok (.ifCond .eq 21, 3) := by decide +kernel
theorem dX4_counted_38 : decode cX4_counted 38 = .ok (.aload_n 0, 1) := by decide +kernel
theorem dX4_counted_39 : decode cX4_counted 39 = .ok (.getfield 19, 3) := by decide +kernel
theorem dX4_counted_42 : decode cX4_counted 42 = .ok (.aload_n 0, 1) := by decide +kernel
theorem dX4_counted_43 : decode cX4_counted 43 = .ok (.getfield 26, 3) := by decide +kernel
theorem dX4_counted_46 : decode cX4_counted 46 = .ok (.iload_n 2, 1) := by decide +kernel
theorem dX4_counted_47 : decode cX4_counted 47 = .ok (.invokevirtual 133, 3) := by decide +kernel
theorem dX4_counted_50 : decode cX4_counted 50 = .ok (.invokevirtual 139, 3) := by decide +kernel
theorem dX4_counted_53 : decode cX4_counted 53 = .ok (.goto 4, 3) := by decide +kernel
theorem dX4_counted_56 : decode cX4_counted 56 = .ok (.iconst 1, 1) := by decide +kernel
theorem dX4_counted_57 : decode cX4_counted 57 = .ok (.iadd, 1) := by decide +kernel
theorem dX4_counted_58 : decode cX4_counted 58 = .ok (.istore_n 1, 1) := by decide +kernel
theorem dX4_counted_59 : decode cX4_counted 59 = .ok (.iinc 2 1, 3) := by decide +kernel
theorem dX4_counted_62 : decode cX4_counted 62 = .ok (.goto (-58), 3) := by decide +kernel
theorem dX4_counted_65 : decode cX4_counted 65 = .ok (.iload_n 1, 1) := by decide +kernel
theorem dX4_counted_66 : decode cX4_counted 66 = .ok (.ireturn, 1) := by decide +kernel
set_option maxRecDepth 20000 in
theorem ggX4_cost_X4_counted : GoodIn wsX4_cost wsX4_counted := goodIn_r _ [5, 6, 7, 8, 9, 10, 11, 12, 13, 14, 15, 16, 17, 18, 19, 20, 21, 22, 23, 24, 25, 26, 27, 28, 29, 30, 31, 32, 33, 34, 35, 36, 37, 38, 39, 40, 41, 42, 55, 56, 57, 58, 59, 60, 61, 62, 63, 64, 65, 66, 67, 68, 69, 70, 71] (by decide +kernel) (by decide +kernel)
set_option maxRecDepth 20000 in
theorem gX4_cost_X4_counted : GoodIn wsX4_cost (wsV RX4 142 RX4 yX4_counted wsX4_counted) := goodIn_app (goodIn_of _ (by decide +kernel)) ggX4_cost_X4_counted
set_option maxRecDepth 20000 in
theorem ggX4_cost_X4_costOf : GoodIn wsX4_cost wsX4_costOf := goodIn_r _ [46, 7, 47, 48, 49, 50, 51, 52, 53, 31, 54, 42, 55, 56, 57, 58, 59, 60, 61, 62, 63, 64, 70, 71] (by decide +kernel) (by decide +kernel)
set_option maxRecDepth 20000 in
theorem gX4_cost_X4_costOf : GoodIn wsX4_cost (wsV RX4 145 RX4 yX4_costOf wsX4_costOf) := goodIn_app (goodIn_of _ (by decide +kernel)) ggX4_cost_X4_costOf
theorem dX4_cost_0 : decode cX4_cost 0 = .ok (.aload_n 0, 1) := by decide +kernel
theorem dX4_cost_1 : decode cX4_cost 1 = .ok (.aload_n 0, 1) := by decide +kernel
theorem dX4_cost_2 : decode cX4_cost 2 = .ok (.invokevirtual 142, 3) := by decide +kernel
theorem dX4_cost_5 : decode cX4_cost 5 = .ok (.invokevirtual 145, 3) := by decide +kernel
theorem dX4_cost_8 : decode cX4_cost 8 = .ok (.ireturn, 1) := by decide +kernel
set_option maxRecDepth 20000 in
theorem ggX4_saved_X1_countOfAll : GoodIn wsX4_saved wsX1_countOfAll := goodIn_r _ [6, 7, 8, 9, 10, 5, 11, 12, 13, 14, 15, 16, 17, 18, 19, 20, 74, 75] (by decide +kernel) (by decide +kernel)
set_option maxRecDepth 20000 in
theorem gX4_saved_X1_countOfAll : GoodIn wsX4_saved (wsV RX4 148 RX1 yX1_countOfAll wsX1_countOfAll) := goodIn_app (goodIn_of _ (by decide +kernel)) ggX4_saved_X1_countOfAll
set_option maxRecDepth 20000 in
theorem ggX4_saved_X4_costOf : GoodIn wsX4_saved wsX4_costOf := goodIn_r _ [25, 1, 26, 27, 28, 29, 30, 31, 32, 5, 33, 7, 64, 65, 66, 67, 68, 69, 70, 71, 72, 73, 74, 75] (by decide +kernel) (by decide +kernel)
set_option maxRecDepth 20000 in
theorem gX4_saved_X4_costOf : GoodIn wsX4_saved (wsV RX4 145 RX4 yX4_costOf wsX4_costOf) := goodIn_app (goodIn_of _ (by decide +kernel)) ggX4_saved_X4_costOf
set_option maxRecDepth 20000 in
theorem ggX4_saved_X4_cost : GoodIn wsX4_saved wsX4_cost := goodIn_r _ [37, 38, 39, 40, 24, 41, 42, 1, 43, 44, 45, 46, 47, 48, 49, 50, 51, 52, 53, 54, 55, 56, 57, 58, 59, 60, 61, 62, 63, 9, 10, 5, 11, 12, 13, 14, 15, 16, 17, 18, 19, 20, 7, 21, 22, 23, 25, 26, 27, 28, 29, 30, 31, 32, 33, 64, 65, 66, 67, 68, 69, 70, 71, 72, 73, 76, 77, 78, 79, 80, 74, 75] (by decide +kernel) (by decide +kernel)
set_option maxRecDepth 20000 in
theorem gX4_saved_X4_cost : GoodIn wsX4_saved (wsV RX4 151 RX4 yX4_cost wsX4_cost) := goodIn_app (goodIn_of _ (by decide +kernel)) ggX4_saved_X4_cost
theorem dX4_saved_0 : decode cX4_saved 0 = .ok (.aload_n 0, 1) := by decide +kernel
theorem dX4_saved_1 : decode cX4_saved 1 = .ok (.aload_n 0, 1) := by decide +kernel
theorem dX4_saved_2 : decode cX4_saved 2 = .ok (.getfield 19, 3) := by decide +kernel
theorem dX4_saved_5 : decode cX4_saved 5 = .ok (.invokevirtual 148, 3) := by decide +kernel
theorem dX4_saved_8 : decode cX4_saved 8 = .ok (.invokevirtual 145, 3) := by decide +kernel
theorem dX4_saved_11 : decode cX4_saved 11 = .ok (.aload_n 0, 1) := by decide +kernel
theorem dX4_saved_12 : decode cX4_saved 12 = .ok (.invokevirtual 151, 3) := by decide +kernel
theorem dX4_saved_15 : decode cX4_saved 15 = .ok (.isub, 1) := by decide +kernel
theorem dX4_saved_16 : decode cX4_saved 16 = .ok (.ireturn, 1) := by decide +kernel
theorem dX4_setQuality_0 : decode cX4_setQuality 0 = .ok (.iload_n 1, 1) := by decide +kernel
theorem dX4_setQuality_1 : decode cX4_setQuality 1 = .ok (.iconst 1, 1) := by decide +kernel
theorem dX4_setQuality_2 : decode cX4_setQuality 2 = .ok (.if_icmp .lt 9, 3) := by decide +kernel
theorem dX4_setQuality_5 : decode cX4_setQuality 5 = .ok (.iload_n 1, 1) := by decide +kernel
theorem dX4_setQuality_6 : decode cX4_setQuality 6 = .ok (.bipush 9, 2) := by decide +kernel
theorem dX4_setQuality_8 : decode cX4_setQuality 8 = .ok (.if_icmp .le 13, 3) := by decide +kernel
theorem dX4_setQuality_11 : decode cX4_setQuality 11 = .ok (.new 48, 3) := by decide +kernel
theorem dX4_setQuality_14 : decode cX4_setQuality 14 = .ok (.dup, 1) := by decide +kernel
theorem dX4_setQuality_15 : decode cX4_setQuality 15 = .ok (.ldc 154, 2) := by decide +kernel
theorem dX4_setQuality_17 : decode cX4_setQuality 17 = .ok (.invokespecial 52, 3) := by decide +kernel
theorem dX4_setQuality_20 : decode cX4_setQuality 20 = .ok (.athrow, 1) := by decide +kernel
theorem dX4_setQuality_21 : decode cX4_setQuality 21 = .ok (.aload_n 0, 1) := by decide +kernel
theorem dX4_setQuality_22 : decode cX4_setQuality 22 = .ok (.getfield 40, 3) := by decide +kernel
theorem dX4_setQuality_25 : decode cX4_setQuality 25 = .ok (.istore_n 2, 1) := by decide +kernel
theorem dX4_setQuality_26 : decode cX4_setQuality 26 = .ok (.aload_n 0, 1) := by decide +kernel
theorem dX4_setQuality_27 : decode cX4_setQuality 27 = .ok (.iload_n 1, 1) := by decide +kernel
theorem dX4_setQuality_28 : decode cX4_setQuality 28 = .ok (.putfield 40, 3) := by decide +kernel
theorem dX4_setQuality_31 : decode cX4_setQuality 31 = .ok (.iload_n 2, 1) := by decide +kernel
theorem dX4_setQuality_32 : decode cX4_setQuality 32 = .ok (.ireturn, 1) := by decide +kernel
set_option maxRecDepth 20000 in
theorem ggX4_send_X1_size : GoodIn wsX4_send wsX1_size := goodIn_r _ [15, 16, 172, 173] (by decide +kernel) (by decide +kernel)
set_option maxRecDepth 20000 in
theorem gX4_send_X1_size : GoodIn wsX4_send (wsV RX4 111 RX1 yX1_size wsX1_size) := goodIn_app (goodIn_of _ (by decide +kernel)) ggX4_send_X1_size
set_option maxRecDepth 20000 in
theorem ggX4_send_X4_cost : GoodIn wsX4_send wsX4_cost := goodIn_r _ [21, 22, 23, 24, 20, 25, 6, 3, 26, 27, 28, 29, 30, 31, 32, 33, 34, 35, 36, 37, 38, 39, 40, 41, 42, 43, 44, 45, 46, 47, 48, 14, 49, 50, 51, 52, 53, 54, 55, 56, 57, 58, 16, 59, 60, 61, 62, 63, 64, 65, 66, 11, 12, 13, 15, 162, 163, 164, 165, 166, 167, 168, 169, 170, 171, 174, 175, 176, 177, 178, 172, 173] (by decide +kernel) (by decide +kernel)
set_option maxRecDepth 20000 in
theorem gX4_send_X4_cost : GoodIn wsX4_send (wsV RX4 151 RX4 yX4_cost wsX4_cost) := goodIn_app (goodIn_of _ (by decide +kernel)) ggX4_send_X4_cost
set_option maxRecDepth 20000 in
theorem ggX4_send_X2_size : GoodIn wsX4_send wsX2_size := goodIn_r _ [30, 31, 174, 175, 176, 177, 178] (by decide +kernel) (by decide +kernel)
set_option maxRecDepth 20000 in
theorem gX4_send_X2_size : GoodIn wsX4_send (wsV RX4 126 RX2 yX2_size wsX2_size) := goodIn_app (goodIn_of _ (by decide +kernel)) ggX4_send_X2_size
set_option maxRecDepth 20000 in
theorem ggX4_send_X3_run : GoodIn wsX4_send wsX3_run := goodIn_r _ [71, 72, 73, 74, 75, 76, 77, 78, 70, 79, 80, 81, 82, 83, 84, 20, 85, 179, 180, 181, 182] (by decide +kernel) (by decide +kernel)
set_option maxRecDepth 20000 in
theorem gX4_send_X3_run : GoodIn wsX4_send (wsV RX4 162 RX3 yX3_run wsX3_run) := goodIn_app (goodIn_of _ (by decide +kernel)) ggX4_send_X3_run
set_option maxRecDepth 20000 in
theorem ggX4_send_X3_sentAtEnd : GoodIn wsX4_send wsX3_sentAtEnd := goodIn_r _ [89, 72, 179, 180, 181, 182] (by decide +kernel) (by decide +kernel)
set_option maxRecDepth 20000 in
theorem gX4_send_X3_sentAtEnd : GoodIn wsX4_send (wsV RX4 166 RX3 yX3_sentAtEnd wsX3_sentAtEnd) := goodIn_app (goodIn_of _ (by decide +kernel)) ggX4_send_X3_sentAtEnd
set_option maxRecDepth 20000 in
theorem ggX4_send_X3_repeatsAsked : GoodIn wsX4_send wsX3_repeatsAsked := goodIn_r _ [93, 74, 179, 180, 181, 182] (by decide +kernel) (by decide +kernel)
set_option maxRecDepth 20000 in
theorem gX4_send_X3_repeatsAsked : GoodIn wsX4_send (wsV RX4 172 RX3 yX3_repeatsAsked wsX3_repeatsAsked) := goodIn_app (goodIn_of _ (by decide +kernel)) ggX4_send_X3_repeatsAsked
set_option maxRecDepth 20000 in
theorem ggX4_send_X3_groupsLost : GoodIn wsX4_send wsX3_groupsLost := goodIn_r _ [97, 75, 179, 180, 181, 182] (by decide +kernel) (by decide +kernel)
set_option maxRecDepth 20000 in
theorem gX4_send_X3_groupsLost : GoodIn wsX4_send (wsV RX4 178 RX3 yX3_groupsLost wsX3_groupsLost) := goodIn_app (goodIn_of _ (by decide +kernel)) ggX4_send_X3_groupsLost
set_option maxRecDepth 20000 in
theorem ggX4_send_X1_removeAll : GoodIn wsX4_send wsX1_removeAll := goodIn_r _ [101, 16, 172, 173] (by decide +kernel) (by decide +kernel)
set_option maxRecDepth 20000 in
theorem gX4_send_X1_removeAll : GoodIn wsX4_send (wsV RX4 120 RX1 yX1_removeAll wsX1_removeAll) := goodIn_app (goodIn_of _ (by decide +kernel)) ggX4_send_X1_removeAll
set_option maxRecDepth 20000 in
theorem ggX4_send_X4_shorten : GoodIn wsX4_send wsX4_shorten := goodIn_r _ [105, 6, 3, 106, 107, 108, 109, 29, 110, 111, 112, 113, 114, 115, 116, 65, 117, 118, 119, 12, 13, 14, 15, 16, 120, 121, 122, 123, 124, 36, 125, 126, 127, 128, 129, 130, 131, 132, 133, 134, 135, 136, 137, 138, 139, 140, 141, 142, 143, 55, 56, 57, 58, 50, 51, 52, 53, 54, 144, 145, 146, 147, 148, 149, 150, 151, 152, 153, 154, 155, 156, 157, 158, 159, 160, 161, 31, 37, 162, 163, 164, 165, 166, 167, 168, 169, 170, 171, 174, 175, 176, 177, 178, 172, 173, 183, 184, 185] (by decide +kernel) (by decide +kernel)
set_option maxRecDepth 20000 in
theorem gX4_send_X4_shorten : GoodIn wsX4_send (wsV RX4 81 RX4 yX4_shorten wsX4_shorten) := goodIn_app (goodIn_of _ (by decide +kernel)) ggX4_send_X4_shorten
theorem dX4_send_0 : decode cX4_send 0 = .ok (.aload_n 0, 1) := by decide +kernel
theorem dX4_send_1 : decode cX4_send 1 = .ok (.getfield 19, 3) := by decide +kernel
theorem dX4_send_4 : decode cX4_send 4 = .ok (.invokevirtual 111, 3) := by decide +kernel
theorem dX4_send_7 : decode cX4_send 7 = .ok (.ifCond .ne 13, 3) := by decide +kernel
theorem dX4_send_10 : decode cX4_send 10 = .ok (.new 66, 3) := by decide +kernel
theorem dX4_send_13 : decode cX4_send 13 = .ok (.dup, 1) := by decide +kernel
theorem dX4_send_14 : decode cX4_send 14 = .ok (.ldc 112, 2) := by decide +kernel
theorem dX4_send_16 : decode cX4_send 16 = .ok (.invokespecial 70, 3) := by decide +kernel
theorem dX4_send_19 : decode cX4_send 19 = .ok (.athrow, 1) := by decide +kernel
theorem dX4_send_20 : decode cX4_send 20 = .ok (.aload_n 0, 1) := by decide +kernel
theorem dX4_send_21 : decode cX4_send 21 = .ok (.dup, 1) := by decide +kernel
theorem dX4_send_22 : decode cX4_send 22 = .ok (.getfield 156, 3) := by decide +kernel
theorem dX4_send_25 : decode cX4_send 25 = .ok (.aload_n 0, 1) := by decide +kernel
theorem dX4_send_26 : decode cX4_send 26 = .ok (.invokevirtual 151, 3) := by decide +kernel
theorem dX4_send_29 : decode cX4_send 29 = .ok (.iadd, 1) := by decide +kernel
theorem dX4_send_30 : decode cX4_send 30 = .ok (.putfield 156, 3) := by decide +kernel
theorem dX4_send_33 : decode cX4_send 33 = .ok (.aload_n 0, 1) := by decide +kernel
theorem dX4_send_34 : decode cX4_send 34 = .ok (.getfield 36, 3) := by decide +kernel
theorem dX4_send_37 : decode cX4_send 37 = .ok (.aload_n 0, 1) := by decide +kernel
theorem dX4_send_38 : decode cX4_send 38 = .ok (.getfield 26, 3) := by decide +kernel
theorem dX4_send_41 : decode cX4_send 41 = .ok (.invokevirtual 126, 3) := by decide +kernel
theorem dX4_send_44 : decode cX4_send 44 = .ok (.aload_n 0, 1) := by decide +kernel
theorem dX4_send_45 : decode cX4_send 45 = .ok (.getfield 159, 3) := by decide +kernel
theorem dX4_send_48 : decode cX4_send 48 = .ok (.aload_n 0, 1) := by decide +kernel
theorem dX4_send_49 : decode cX4_send 49 = .ok (.getfield 40, 3) := by decide +kernel
theorem dX4_send_52 : decode cX4_send 52 = .ok (.invokevirtual 162, 3) := by decide +kernel
theorem dX4_send_55 : decode cX4_send 55 = .ok (.aload_n 0, 1) := by decide +kernel
theorem dX4_send_56 : decode cX4_send 56 = .ok (.aload_n 0, 1) := by decide +kernel
theorem dX4_send_57 : decode cX4_send 57 = .ok (.getfield 36, 3) := by decide +kernel
theorem dX4_send_60 : decode cX4_send 60 = .ok (.invokevirtual 166, 3) := by decide +kernel
theorem dX4_send_63 : decode cX4_send 63 = .ok (.putfield 159, 3) := by decide +kernel
theorem dX4_send_66 : decode cX4_send 66 = .ok (.aload_n 0, 1) := by decide +kernel
theorem dX4_send_67 : decode cX4_send 67 = .ok (.dup, 1) := by decide +kernel
theorem dX4_send_68 : decode cX4_send 68 = .ok (.getfield 169, 3) := by decide +kernel
theorem dX4_send_71 : decode cX4_send 71 = .ok (.aload_n 0, 1) := by decide +kernel
theorem dX4_send_72 : decode cX4_send 72 = .ok (.getfield 36, 3) := by decide +kernel
theorem dX4_send_75 : decode cX4_send 75 = .ok (.invokevirtual 172, 3) := by decide +kernel
theorem dX4_send_78 : decode cX4_send 78 = .ok (.iadd, 1) := by decide +kernel
theorem dX4_send_79 : decode cX4_send 79 = .ok (.putfield 169, 3) := by decide +kernel
theorem dX4_send_82 : decode cX4_send 82 = .ok (.aload_n 0, 1) := by decide +kernel
theorem dX4_send_83 : decode cX4_send 83 = .ok (.dup, 1) := by decide +kernel
theorem dX4_send_84 : decode cX4_send 84 = .ok (.getfield 175, 3) := by decide +kernel
theorem dX4_send_87 : decode cX4_send 87 = .ok (.aload_n 0, 1) := by decide +kernel
theorem dX4_send_88 : decode cX4_send 88 = .ok (.getfield 36, 3) := by decide +kernel
theorem dX4_send_91 : decode cX4_send 91 = .ok (.invokevirtual 178, 3) := by decide +kernel
theorem dX4_send_94 : decode cX4_send 94 = .ok (.iadd, 1) := by decide +kernel
theorem dX4_send_95 : decode cX4_send 95 = .ok (.putfield 175, 3) := by decide +kernel
theorem dX4_send_98 : decode cX4_send 98 = .ok (.aload_n 0, 1) := by decide +kernel
theorem dX4_send_99 : decode cX4_send 99 = .ok (.getfield 19, 3) := by decide +kernel
theorem dX4_send_102 : decode cX4_send 102 = .ok (.invokevirtual 120, 3) := by decide +kernel
theorem dX4_send_105 : decode cX4_send 105 = .ok (.aload_n 0, 1) := by decide +kernel
theorem dX4_send_106 : decode cX4_send 106 = .ok (.invokevirtual 81, 3) := by decide +kernel
theorem dX4_send_109 : decode cX4_send 109 = .ok (.aload_n 0, 1) := by decide +kernel
theorem dX4_send_110 : decode cX4_send 110 = .ok (.getfield 36, 3) := by decide +kernel
theorem dX4_send_113 : decode cX4_send 113 = .ok (.invokevirtual 178, 3) := by decide +kernel
theorem dX4_send_116 : decode cX4_send 116 = .ok (.ireturn, 1) := by decide +kernel
theorem dX4_sentGroups_0 : decode cX4_sentGroups 0 = .ok (.aload_n 0, 1) := by decide +kernel
theorem dX4_sentGroups_1 : decode cX4_sentGroups 1 = .ok (.getfield 159, 3) := by decide +kernel
theorem dX4_sentGroups_4 : decode cX4_sentGroups 4 = .ok (.ireturn, 1) := by decide +kernel
theorem dX4_repeats_0 : decode cX4_repeats 0 = .ok (.aload_n 0, 1) := by decide +kernel
theorem dX4_repeats_1 : decode cX4_repeats 1 = .ok (.getfield 169, 3) := by decide +kernel
theorem dX4_repeats_4 : decode cX4_repeats 4 = .ok (.ireturn, 1) := by decide +kernel
theorem dX4_lost_0 : decode cX4_lost 0 = .ok (.aload_n 0, 1) := by decide +kernel
theorem dX4_lost_1 : decode cX4_lost 1 = .ok (.getfield 175, 3) := by decide +kernel
theorem dX4_lost_4 : decode cX4_lost 4 = .ok (.ireturn, 1) := by decide +kernel
theorem dX4_earned_0 : decode cX4_earned 0 = .ok (.aload_n 0, 1) := by decide +kernel
theorem dX4_earned_1 : decode cX4_earned 1 = .ok (.getfield 156, 3) := by decide +kernel
theorem dX4_earned_4 : decode cX4_earned 4 = .ok (.ireturn, 1) := by decide +kernel
set_option maxRecDepth 20000 in
theorem ggX4_untilGarbled_X4_isGarbled : GoodIn wsX4_untilGarbled wsX4_isGarbled := goodIn_r _ [6] (by decide +kernel) (by decide +kernel)
set_option maxRecDepth 20000 in
theorem gX4_untilGarbled_X4_isGarbled : GoodIn wsX4_untilGarbled (va_wsS RX4 181 yX4_isGarbled wsX4_isGarbled) := goodIn_app (goodIn_of _ (by decide +kernel)) ggX4_untilGarbled_X4_isGarbled
theorem dX4_untilGarbled_0 : decode cX4_untilGarbled 0 = .ok (.iconst 1, 1) := by decide +kernel
theorem dX4_untilGarbled_1 : decode cX4_untilGarbled 1 = .ok (.istore_n 1, 1) := by decide +kernel
theorem dX4_untilGarbled_2 : decode cX4_untilGarbled 2 = .ok (.iload_n 1, 1) := by decide +kernel
theorem dX4_untilGarbled_3 : decode cX4_untilGarbled 3 = .ok (.sipush 1000, 3) := by decide +kernel
theorem dX4_untilGarbled_6 : decode cX4_untilGarbled 6 = .ok (.if_icmp .ge 25, 3) := by decide +kernel
theorem dX4_untilGarbled_9 : decode cX4_untilGarbled 9 = .ok (.aload_n 0, 1) := by decide +kernel
theorem dX4_untilGarbled_10 : decode cX4_untilGarbled 10 = .ok (.getfield 159, 3) := by decide +kernel
theorem dX4_untilGarbled_13 : decode cX4_untilGarbled 13 = .ok (.iload_n 1, 1) := by decide +kernel
theorem dX4_untilGarbled_14 : decode cX4_untilGarbled 14 = .ok (.iadd, 1) := by decide +kernel
theorem dX4_untilGarbled_15 : decode cX4_untilGarbled 15 = .ok (.aload_n 0, 1) := by decide +kernel
theorem dX4_untilGarbled_16 : decode cX4_untilGarbled 16 = .ok (.getfield 40, 3) := by decide +kernel
theorem dX4_untilGarbled_19 : decode cX4_untilGarbled 19 = .ok (.invokestatic 181, 3) := by decide +kernel
theorem dX4_untilGarbled_22 : decode cX4_untilGarbled 22 = .ok (.ifCond .ne 9, 3) := by decide +kernel
theorem dX4_untilGarbled_25 : decode cX4_untilGarbled 25 = .ok (.iinc 1 1, 3) := by decide +kernel
theorem dX4_untilGarbled_28 : decode cX4_untilGarbled 28 = .ok (.goto (-26), 3) := by decide +kernel
theorem dX4_untilGarbled_31 : decode cX4_untilGarbled 31 = .ok (.iload_n 1, 1) := by decide +kernel
theorem dX4_untilGarbled_32 : decode cX4_untilGarbled 32 = .ok (.ireturn, 1) := by decide +kernel
set_option maxRecDepth 20000 in
theorem ggX4_wouldBeGarbled_X2_size : GoodIn wsX4_wouldBeGarbled wsX2_size := goodIn_r _ [9, 10, 45, 46, 47, 48, 49] (by decide +kernel) (by decide +kernel)
set_option maxRecDepth 20000 in
theorem gX4_wouldBeGarbled_X2_size : GoodIn wsX4_wouldBeGarbled (wsV RX4 126 RX2 yX2_size wsX2_size) := goodIn_app (goodIn_of _ (by decide +kernel)) ggX4_wouldBeGarbled_X2_size
set_option maxRecDepth 20000 in
theorem ggX4_wouldBeGarbled_X3_run : GoodIn wsX4_wouldBeGarbled wsX3_run := goodIn_r _ [15, 16, 17, 18, 19, 20, 21, 22, 14, 23, 24, 25, 26, 27, 28, 29, 30, 50, 51, 52, 53] (by decide +kernel) (by decide +kernel)
set_option maxRecDepth 20000 in
theorem gX4_wouldBeGarbled_X3_run : GoodIn wsX4_wouldBeGarbled (wsV RX4 162 RX3 yX3_run wsX3_run) := goodIn_app (goodIn_of _ (by decide +kernel)) ggX4_wouldBeGarbled_X3_run
set_option maxRecDepth 20000 in
theorem ggX4_wouldBeGarbled_X3_garbledAtFirst : GoodIn wsX4_wouldBeGarbled wsX3_garbledAtFirst := goodIn_r _ [34, 17, 50, 51, 52, 53] (by decide +kernel) (by decide +kernel)
set_option maxRecDepth 20000 in
theorem gX4_wouldBeGarbled_X3_garbledAtFirst : GoodIn wsX4_wouldBeGarbled (wsV RX4 185 RX3 yX3_garbledAtFirst wsX3_garbledAtFirst) := goodIn_app (goodIn_of _ (by decide +kernel)) ggX4_wouldBeGarbled_X3_garbledAtFirst
theorem dX4_wouldBeGarbled_0 : decode cX4_wouldBeGarbled 0 = .ok (.aload_n 0, 1) := by decide +kernel
theorem dX4_wouldBeGarbled_1 : decode cX4_wouldBeGarbled 1 = .ok (.getfield 36, 3) := by decide +kernel
theorem dX4_wouldBeGarbled_4 : decode cX4_wouldBeGarbled 4 = .ok (.aload_n 0, 1) := by decide +kernel
theorem dX4_wouldBeGarbled_5 : decode cX4_wouldBeGarbled 5 = .ok (.getfield 26, 3) := by decide +kernel
theorem dX4_wouldBeGarbled_8 : decode cX4_wouldBeGarbled 8 = .ok (.invokevirtual 126, 3) := by decide +kernel
theorem dX4_wouldBeGarbled_11 : decode cX4_wouldBeGarbled 11 = .ok (.aload_n 0, 1) := by decide +kernel
theorem dX4_wouldBeGarbled_12 : decode cX4_wouldBeGarbled 12 = .ok (.getfield 159, 3) := by decide +kernel
theorem dX4_wouldBeGarbled_15 : decode cX4_wouldBeGarbled 15 = .ok (.aload_n 0, 1) := by decide +kernel
theorem dX4_wouldBeGarbled_16 : decode cX4_wouldBeGarbled 16 = .ok (.getfield 40, 3) := by decide +kernel
theorem dX4_wouldBeGarbled_19 : decode cX4_wouldBeGarbled 19 = .ok (.invokevirtual 162, 3) := by decide +kernel
theorem dX4_wouldBeGarbled_22 : decode cX4_wouldBeGarbled 22 = .ok (.aload_n 0, 1) := by decide +kernel
theorem dX4_wouldBeGarbled_23 : decode cX4_wouldBeGarbled 23 = .ok (.getfield 36, 3) := by decide +kernel
theorem dX4_wouldBeGarbled_26 : decode cX4_wouldBeGarbled 26 = .ok (.invokevirtual 185, 3) := by decide +kernel
theorem dX4_wouldBeGarbled_29 : decode cX4_wouldBeGarbled 29 = .ok (.ireturn, 1) := by decide +kernel
set_option maxRecDepth 20000 in
theorem ggX4_repeatsIfSent_X2_size : GoodIn wsX4_repeatsIfSent wsX2_size := goodIn_r _ [9, 10, 45, 46, 47, 48, 49] (by decide +kernel) (by decide +kernel)
set_option maxRecDepth 20000 in
theorem gX4_repeatsIfSent_X2_size : GoodIn wsX4_repeatsIfSent (wsV RX4 126 RX2 yX2_size wsX2_size) := goodIn_app (goodIn_of _ (by decide +kernel)) ggX4_repeatsIfSent_X2_size
set_option maxRecDepth 20000 in
theorem ggX4_repeatsIfSent_X3_run : GoodIn wsX4_repeatsIfSent wsX3_run := goodIn_r _ [15, 16, 17, 18, 19, 20, 21, 22, 14, 23, 24, 25, 26, 27, 28, 29, 30, 50, 51, 52, 53] (by decide +kernel) (by decide +kernel)
set_option maxRecDepth 20000 in
theorem gX4_repeatsIfSent_X3_run : GoodIn wsX4_repeatsIfSent (wsV RX4 162 RX3 yX3_run wsX3_run) := goodIn_app (goodIn_of _ (by decide +kernel)) ggX4_repeatsIfSent_X3_run
set_option maxRecDepth 20000 in
theorem ggX4_repeatsIfSent_X3_repeatsAsked : GoodIn wsX4_repeatsIfSent wsX3_repeatsAsked := goodIn_r _ [34, 18, 50, 51, 52, 53] (by decide +kernel) (by decide +kernel)
set_option maxRecDepth 20000 in
theorem gX4_repeatsIfSent_X3_repeatsAsked : GoodIn wsX4_repeatsIfSent (wsV RX4 172 RX3 yX3_repeatsAsked wsX3_repeatsAsked) := goodIn_app (goodIn_of _ (by decide +kernel)) ggX4_repeatsIfSent_X3_repeatsAsked
theorem dX4_repeatsIfSent_0 : decode cX4_repeatsIfSent 0 = .ok (.aload_n 0, 1) := by decide +kernel
theorem dX4_repeatsIfSent_1 : decode cX4_repeatsIfSent 1 = .ok (.getfield 36, 3) := by decide +kernel
theorem dX4_repeatsIfSent_4 : decode cX4_repeatsIfSent 4 = .ok (.aload_n 0, 1) := by decide +kernel
theorem dX4_repeatsIfSent_5 : decode cX4_repeatsIfSent 5 = .ok (.getfield 26, 3) := by decide +kernel
theorem dX4_repeatsIfSent_8 : decode cX4_repeatsIfSent 8 = .ok (.invokevirtual 126, 3) := by decide +kernel
theorem dX4_repeatsIfSent_11 : decode cX4_repeatsIfSent 11 = .ok (.aload_n 0, 1) := by decide +kernel
theorem dX4_repeatsIfSent_12 : decode cX4_repeatsIfSent 12 = .ok (.getfield 159, 3) := by decide +kernel
theorem dX4_repeatsIfSent_15 : decode cX4_repeatsIfSent 15 = .ok (.aload_n 0, 1) := by decide +kernel
theorem dX4_repeatsIfSent_16 : decode cX4_repeatsIfSent 16 = .ok (.getfield 40, 3) := by decide +kernel
theorem dX4_repeatsIfSent_19 : decode cX4_repeatsIfSent 19 = .ok (.invokevirtual 162, 3) := by decide +kernel
theorem dX4_repeatsIfSent_22 : decode cX4_repeatsIfSent 22 = .ok (.aload_n 0, 1) := by decide +kernel
theorem dX4_repeatsIfSent_23 : decode cX4_repeatsIfSent 23 = .ok (.getfield 36, 3) := by decide +kernel
theorem dX4_repeatsIfSent_26 : decode cX4_repeatsIfSent 26 = .ok (.invokevirtual 172, 3) := by decide +kernel
theorem dX4_repeatsIfSent_29 : decode cX4_repeatsIfSent 29 = .ok (.ireturn, 1) := by decide +kernel
set_option maxRecDepth 20000 in
theorem ggX4_qualityWanted_X2_size : GoodIn wsX4_qualityWanted wsX2_size := goodIn_r _ [8, 9, 44, 45, 46, 47, 48] (by decide +kernel) (by decide +kernel)
set_option maxRecDepth 20000 in
theorem gX4_qualityWanted_X2_size : GoodIn wsX4_qualityWanted (wsV RX4 126 RX2 yX2_size wsX2_size) := goodIn_app (goodIn_of _ (by decide +kernel)) ggX4_qualityWanted_X2_size
set_option maxRecDepth 20000 in
theorem ggX4_qualityWanted_X3_run : GoodIn wsX4_qualityWanted wsX3_run := goodIn_r _ [14, 15, 16, 17, 18, 19, 20, 21, 13, 22, 23, 24, 25, 26, 27, 28, 29, 49, 50, 51, 52] (by decide +kernel) (by decide +kernel)
set_option maxRecDepth 20000 in
theorem gX4_qualityWanted_X3_run : GoodIn wsX4_qualityWanted (wsV RX4 162 RX3 yX3_run wsX3_run) := goodIn_app (goodIn_of _ (by decide +kernel)) ggX4_qualityWanted_X3_run
set_option maxRecDepth 20000 in
theorem ggX4_qualityWanted_X3_groupsLost : GoodIn wsX4_qualityWanted wsX3_groupsLost := goodIn_r _ [33, 18, 49, 50, 51, 52] (by decide +kernel) (by decide +kernel)
set_option maxRecDepth 20000 in
theorem gX4_qualityWanted_X3_groupsLost : GoodIn wsX4_qualityWanted (wsV RX4 178 RX3 yX3_groupsLost wsX3_groupsLost) := goodIn_app (goodIn_of _ (by decide +kernel)) ggX4_qualityWanted_X3_groupsLost
theorem dX4_qualityWanted_0 : decode cX4_qualityWanted 0 = .ok (.iconst 1, 1) := by decide +kernel
theorem dX4_qualityWanted_1 : decode cX4_qualityWanted 1 = .ok (.istore_n 1, 1) := by decide +kernel
theorem dX4_qualityWanted_2 : decode cX4_qualityWanted 2 = .ok (.iload_n 1, 1) := by decide +kernel
theorem dX4_qualityWanted_3 : decode cX4_qualityWanted 3 = .ok (.bipush 9, 2) := by decide +kernel
theorem dX4_qualityWanted_5 : decode cX4_qualityWanted 5 = .ok (.if_icmp .gt 40, 3) := by decide +kernel
theorem dX4_qualityWanted_8 : decode cX4_qualityWanted 8 = .ok (.aload_n 0, 1) := by decide +kernel
theorem dX4_qualityWanted_9 : decode cX4_qualityWanted 9 = .ok (.getfield 36, 3) := by decide +kernel
theorem dX4_qualityWanted_12 : decode cX4_qualityWanted 12 = .ok (.aload_n 0, 1) := by decide +kernel
theorem dX4_qualityWanted_13 : decode cX4_qualityWanted 13 = .ok (.getfield 26, 3) := by decide +kernel
theorem dX4_qualityWanted_16 : decode cX4_qualityWanted 16 = .ok (.invokevirtual 126, 3) := by decide +kernel
theorem dX4_qualityWanted_19 : decode cX4_qualityWanted 19 = .ok (.aload_n 0, 1) := by decide +kernel
theorem dX4_qualityWanted_20 : decode cX4_qualityWanted 20 = .ok (.getfield 159, 3) := by decide +kernel
theorem dX4_qualityWanted_23 : decode cX4_qualityWanted 23 = .ok (.iload_n 1, 1) := by decide +kernel
theorem dX4_qualityWanted_24 : decode cX4_qualityWanted 24 = .ok (.invokevirtual 162, 3) := by decide +kernel
theorem dX4_qualityWanted_27 : decode cX4_qualityWanted 27 = .ok (.aload_n 0, 1) := by decide +kernel
theorem dX4_qualityWanted_28 : decode cX4_qualityWanted 28 = .ok (.getfield 36, 3) := by decide +kernel
theorem dX4_qualityWanted_31 : decode cX4_qualityWanted 31 = .ok (.invokevirtual 178, 3) := by decide +kernel
theorem dX4_qualityWanted_34 : decode cX4_qualityWanted 34 = .ok (.ifCond .ne 5, 3) := by decide +kernel
theorem dX4_qualityWanted_37 : decode cX4_qualityWanted 37 = .ok (.iload_n 1, 1) := by decide +kernel
theorem dX4_qualityWanted_38 : decode cX4_qualityWanted 38 = .ok (.ireturn, 1) := by decide +kernel
theorem dX4_qualityWanted_39 : decode cX4_qualityWanted 39 = .ok (.iinc 1 1, 3) := by decide +kernel
theorem dX4_qualityWanted_42 : decode cX4_qualityWanted 42 = .ok (.goto (-40), 3) := by decide +kernel
theorem dX4_qualityWanted_45 : decode cX4_qualityWanted 45 = .ok (.iconst (-1), 1) := by decide +kernel
theorem dX4_qualityWanted_46 : decode cX4_qualityWanted 46 = .ok (.ireturn, 1) := by decide +kernel
set_option maxRecDepth 20000 in
theorem ggX4_uselessCode_X0_size : GoodIn wsX4_uselessCode wsX0_size := goodIn_r _ [9, 10, 94, 95, 96] (by decide +kernel) (by decide +kernel)
set_option maxRecDepth 20000 in
theorem gX4_uselessCode_X0_size : GoodIn wsX4_uselessCode (wsV RX4 84 RX0 yX0_size wsX0_size) := goodIn_app (goodIn_of _ (by decide +kernel)) ggX4_uselessCode_X0_size
set_option maxRecDepth 20000 in
theorem ggX4_uselessCode_X2_partWithout : GoodIn wsX4_uselessCode wsX2_partWithout := goodIn_r _ [15, 16, 17, 18, 14, 19, 20, 21, 22, 23, 24, 25, 26, 27, 28, 29, 30, 31, 32, 33, 34, 35, 36, 37, 6, 7, 8, 9, 10, 38, 39, 40, 41, 42, 43, 44, 45, 46, 47, 48, 49, 50, 51, 52, 53, 54, 55, 56, 57, 58, 59, 60, 61, 62, 63, 64, 65, 66, 67, 68, 69, 70, 71, 72, 73, 74, 75, 76, 77, 78, 79, 97, 98, 99, 100, 101, 102, 103, 94, 95, 96] (by decide +kernel) (by decide +kernel)
set_option maxRecDepth 20000 in
theorem gX4_uselessCode_X2_partWithout : GoodIn wsX4_uselessCode (wsV RX4 188 RX2 yX2_partWithout wsX2_partWithout) := goodIn_app (goodIn_of _ (by decide +kernel)) ggX4_uselessCode_X2_partWithout
set_option maxRecDepth 20000 in
theorem ggX4_uselessCode_X2_size : GoodIn wsX4_uselessCode wsX2_size := goodIn_r _ [83, 78, 97, 98, 99, 100, 101] (by decide +kernel) (by decide +kernel)
set_option maxRecDepth 20000 in
theorem gX4_uselessCode_X2_size : GoodIn wsX4_uselessCode (wsV RX4 126 RX2 yX2_size wsX2_size) := goodIn_app (goodIn_of _ (by decide +kernel)) ggX4_uselessCode_X2_size
theorem dX4_uselessCode_0 : decode cX4_uselessCode 0 = .ok (.iconst 0, 1) := by decide +kernel
theorem dX4_uselessCode_1 : decode cX4_uselessCode 1 = .ok (.istore_n 1, 1) := by decide +kernel
theorem dX4_uselessCode_2 : decode cX4_uselessCode 2 = .ok (.iload_n 1, 1) := by decide +kernel
theorem dX4_uselessCode_3 : decode cX4_uselessCode 3 = .ok (.aload_n 0, 1) := by decide +kernel
theorem dX4_uselessCode_4 : decode cX4_uselessCode 4 = .ok (.getfield 10, 3) := by decide +kernel
theorem dX4_uselessCode_7 : decode cX4_uselessCode 7 = .ok (.invokevirtual 84, 3) := by decide +kernel
theorem dX4_uselessCode_10 : decode cX4_uselessCode 10 = .ok (.if_icmp .ge 44, 3) := by decide +kernel
theorem dX4_uselessCode_13 : decode cX4_uselessCode 13 = .ok (.aload_n 0, 1) := by decide +kernel
theorem dX4_uselessCode_14 : decode cX4_uselessCode 14 = .ok (.getfield 30, 3) := by decide +kernel
theorem dX4_uselessCode_17 : decode cX4_uselessCode 17 = .ok (.aload_n 0, 1) := by decide +kernel
theorem dX4_uselessCode_18 : decode cX4_uselessCode 18 = .ok (.getfield 19, 3) := by decide +kernel
theorem dX4_uselessCode_21 : decode cX4_uselessCode 21 = .ok (.aload_n 0, 1) := by decide +kernel
theorem dX4_uselessCode_22 : decode cX4_uselessCode 22 = .ok (.getfield 10, 3) := by decide +kernel
theorem dX4_uselessCode_25 : decode cX4_uselessCode 25 = .ok (.iload_n 1, 1) := by decide +kernel
theorem dX4_uselessCode_26 : decode cX4_uselessCode 26 = .ok (.invokevirtual 188, 3) := by decide +kernel
theorem dX4_uselessCode_29 : decode cX4_uselessCode 29 = .ok (.aload_n 0, 1) := by decide +kernel
theorem dX4_uselessCode_30 : decode cX4_uselessCode 30 = .ok (.getfield 30, 3) := by decide +kernel
theorem dX4_uselessCode_33 : decode cX4_uselessCode 33 = .ok (.invokevirtual 126, 3) := by decide +kernel
theorem dX4_uselessCode_36 : decode cX4_uselessCode 36 = .ok (.aload_n 0, 1) := by decide +kernel
theorem dX4_uselessCode_37 : decode cX4_uselessCode 37 = .ok (.getfield 26, 3) := by decide +kernel
theorem dX4_uselessCode_40 : decode cX4_uselessCode 40 = .ok (.invokevirtual 126, 3) := by decide +kernel
theorem dX4_uselessCode_43 : decode cX4_uselessCode 43 = .ok (.if_icmp .gt 5, 3) := by decide +kernel
theorem dX4_uselessCode_46 : decode cX4_uselessCode 46 = .ok (.iload_n 1, 1) := by decide +kernel
theorem dX4_uselessCode_47 : decode cX4_uselessCode 47 = .ok (.ireturn, 1) := by decide +kernel
theorem dX4_uselessCode_48 : decode cX4_uselessCode 48 = .ok (.iinc 1 1, 3) := by decide +kernel
theorem dX4_uselessCode_51 : decode cX4_uselessCode 51 = .ok (.goto (-49), 3) := by decide +kernel
theorem dX4_uselessCode_54 : decode cX4_uselessCode 54 = .ok (.iconst (-1), 1) := by decide +kernel
theorem dX4_uselessCode_55 : decode cX4_uselessCode 55 = .ok (.ireturn, 1) := by decide +kernel
set_option maxRecDepth 20000 in
theorem ggX4_bestNewCode_X4_bestStart : GoodIn wsX4_bestNewCode wsX4_bestStart := goodIn_r _ [7, 8, 9, 10, 11, 12, 13, 14, 15, 16, 17, 18, 19, 20, 21, 22, 23, 24, 25, 26, 27, 28, 29, 30, 31, 32, 33, 34, 35, 36, 37, 38, 39, 40, 41, 42, 43, 44, 45, 46, 47, 48, 49, 50, 51, 52, 53, 54, 55, 56, 57, 58, 59, 60, 61, 62, 63, 64, 65, 66, 67, 68, 69, 70, 71, 72, 73, 74, 75, 76, 77, 78, 79, 80, 81, 82, 83, 84, 85, 86, 87, 88, 89, 90, 91, 92, 93, 94, 95, 96, 97, 98, 99, 100, 101, 102, 103, 104, 105, 106, 107, 108, 109] (by decide +kernel) (by decide +kernel)
set_option maxRecDepth 20000 in
theorem gX4_bestNewCode_X4_bestStart : GoodIn wsX4_bestNewCode (wsV RX4 194 RX4 yX4_bestStart wsX4_bestStart) := goodIn_app (goodIn_of _ (by decide +kernel)) ggX4_bestNewCode_X4_bestStart
theorem dX4_bestNewCode_0 : decode cX4_bestNewCode 0 = .ok (.iload_n 1, 1) := by decide +kernel
theorem dX4_bestNewCode_1 : decode cX4_bestNewCode 1 = .ok (.iconst 2, 1) := by decide +kernel
theorem dX4_bestNewCode_2 : decode cX4_bestNewCode 2 = .ok (.if_icmp .lt 8, 3) := by decide +kernel
theorem dX4_bestNewCode_5 : decode cX4_bestNewCode 5 = .ok (.iload_n 1, 1) := by decide +kernel
theorem dX4_bestNewCode_6 : decode cX4_bestNewCode 6 = .ok (.iconst 4, 1) := by decide +kernel
theorem dX4_bestNewCode_7 : decode cX4_bestNewCode 7 = .ok (.if_icmp .le 13, 3) := by decide +kernel
theorem dX4_bestNewCode_10 : decode cX4_bestNewCode 10 = .ok (.new 48, 3) := by decide +kernel
theorem dX4_bestNewCode_13 : decode cX4_bestNewCode 13 = .ok (.dup, 1) := by decide +kernel
theorem dX4_bestNewCode_14 : decode cX4_bestNewCode 14 = .ok (.ldc 192, 2) := by decide +kernel
theorem dX4_bestNewCode_16 : decode cX4_bestNewCode 16 = .ok (.invokespecial 52, 3) := by decide +kernel
theorem dX4_bestNewCode_19 : decode cX4_bestNewCode 19 = .ok (.athrow, 1) := by decide +kernel
theorem dX4_bestNewCode_20 : decode cX4_bestNewCode 20 = .ok (.aload_n 0, 1) := by decide +kernel
theorem dX4_bestNewCode_21 : decode cX4_bestNewCode 21 = .ok (.iload_n 1, 1) := by decide +kernel
theorem dX4_bestNewCode_22 : decode cX4_bestNewCode 22 = .ok (.invokevirtual 194, 3) := by decide +kernel
theorem dX4_bestNewCode_25 : decode cX4_bestNewCode 25 = .ok (.ireturn, 1) := by decide +kernel
set_option maxRecDepth 20000 in
theorem ggX4_meanLength_X0_size : GoodIn wsX4_meanLength wsX0_size := goodIn_r _ [6, 7, 27, 28, 29] (by decide +kernel) (by decide +kernel)
set_option maxRecDepth 20000 in
theorem gX4_meanLength_X0_size : GoodIn wsX4_meanLength (wsV RX4 84 RX0 yX0_size wsX0_size) := goodIn_app (goodIn_of _ (by decide +kernel)) ggX4_meanLength_X0_size
set_option maxRecDepth 20000 in
theorem ggX4_meanLength_X0_wordsIn : GoodIn wsX4_meanLength wsX0_wordsIn := goodIn_r _ [11, 12, 13, 14, 15, 5, 16, 7, 27, 28, 29] (by decide +kernel) (by decide +kernel)
set_option maxRecDepth 20000 in
theorem gX4_meanLength_X0_wordsIn : GoodIn wsX4_meanLength (wsV RX4 96 RX0 yX0_wordsIn wsX0_wordsIn) := goodIn_app (goodIn_of _ (by decide +kernel)) ggX4_meanLength_X0_wordsIn
theorem dX4_meanLength_0 : decode cX4_meanLength 0 = .ok (.aload_n 0, 1) := by decide +kernel
theorem dX4_meanLength_1 : decode cX4_meanLength 1 = .ok (.getfield 10, 3) := by decide +kernel
theorem dX4_meanLength_4 : decode cX4_meanLength 4 = .ok (.invokevirtual 84, 3) := by decide +kernel
theorem dX4_meanLength_7 : decode cX4_meanLength 7 = .ok (.ifCond .ne 5, 3) := by decide +kernel
theorem dX4_meanLength_10 : decode cX4_meanLength 10 = .ok (.dconst 0, 1) := by decide +kernel
theorem dX4_meanLength_11 : decode cX4_meanLength 11 = .ok (.dreturn, 1) := by decide +kernel
theorem dX4_meanLength_12 : decode cX4_meanLength 12 = .ok (.iconst 0, 1) := by decide +kernel
theorem dX4_meanLength_13 : decode cX4_meanLength 13 = .ok (.istore_n 1, 1) := by decide +kernel
theorem dX4_meanLength_14 : decode cX4_meanLength 14 = .ok (.iconst 0, 1) := by decide +kernel
theorem dX4_meanLength_15 : decode cX4_meanLength 15 = .ok (.istore_n 2, 1) := by decide +kernel
theorem dX4_meanLength_16 : decode cX4_meanLength 16 = .ok (.iload_n 2, 1) := by decide +kernel
theorem dX4_meanLength_17 : decode cX4_meanLength 17 = .ok (.aload_n 0, 1) := by decide +kernel
theorem dX4_meanLength_18 : decode cX4_meanLength 18 = .ok (.getfield 10, 3) := by decide +kernel
theorem dX4_meanLength_21 : decode cX4_meanLength 21 = .ok (.invokevirtual 84, 3) := by decide +kernel
theorem dX4_meanLength_24 : decode cX4_meanLength 24 = .ok (.if_icmp .ge 20, 3) := by decide +kernel
theorem dX4_meanLength_27 : decode cX4_meanLength 27 = .ok (.iload_n 1, 1) := by decide +kernel
theorem dX4_meanLength_28 : decode cX4_meanLength 28 = .ok (.aload_n 0, 1) := by decide +kernel
theorem dX4_meanLength_29 : decode cX4_meanLength 29 = .ok (.getfield 10, 3) := by decide +kernel
theorem dX4_meanLength_32 : decode cX4_meanLength 32 = .ok (.iload_n 2, 1) := by decide +kernel
theorem dX4_meanLength_33 : decode cX4_meanLength 33 = .ok (.invokevirtual 96, 3) := by decide +kernel
theorem dX4_meanLength_36 : decode cX4_meanLength 36 = .ok (.iadd, 1) := by decide +kernel
theorem dX4_meanLength_37 : decode cX4_meanLength 37 = .ok (.istore_n 1, 1) := by decide +kernel
theorem dX4_meanLength_38 : decode cX4_meanLength 38 = .ok (.iinc 2 1, 3) := by decide +kernel
theorem dX4_meanLength_41 : decode cX4_meanLength 41 = .ok (.goto (-25), 3) := by decide +kernel
theorem dX4_meanLength_44 : decode cX4_meanLength 44 = .ok (.iload_n 1, 1) := by decide +kernel
theorem dX4_meanLength_45 : decode cX4_meanLength 45 = .ok (.i2d, 1) := by decide +kernel
theorem dX4_meanLength_46 : decode cX4_meanLength 46 = .ok (.aload_n 0, 1) := by decide +kernel
theorem dX4_meanLength_47 : decode cX4_meanLength 47 = .ok (.getfield 10, 3) := by decide +kernel
theorem dX4_meanLength_50 : decode cX4_meanLength 50 = .ok (.invokevirtual 84, 3) := by decide +kernel
theorem dX4_meanLength_53 : decode cX4_meanLength 53 = .ok (.i2d, 1) := by decide +kernel
theorem dX4_meanLength_54 : decode cX4_meanLength 54 = .ok (.ddiv, 1) := by decide +kernel
theorem dX4_meanLength_55 : decode cX4_meanLength 55 = .ok (.dreturn, 1) := by decide +kernel
set_option maxRecDepth 20000 in
theorem ggX4_digest_X4_codes : GoodIn wsX4_digest wsX4_codes := goodIn_r _ [6, 7, 8, 9, 10, 11, 12, 13, 244, 245, 246, 247, 248, 249, 250, 251, 252, 253, 254, 255, 256] (by decide +kernel) (by decide +kernel)
set_option maxRecDepth 20000 in
theorem gX4_digest_X4_codes : GoodIn wsX4_digest (wsV RX4 199 RX4 yX4_codes wsX4_codes) := goodIn_app (goodIn_of _ (by decide +kernel)) ggX4_digest_X4_codes
set_option maxRecDepth 20000 in
theorem ggX4_digest_X4_withNumber : GoodIn wsX4_digest wsX4_withNumber := goodIn_r _ [16, 17] (by decide +kernel) (by decide +kernel)
set_option maxRecDepth 20000 in
theorem gX4_digest_X4_withNumber : GoodIn wsX4_digest (va_wsS RX4 202 yX4_withNumber wsX4_withNumber) := goodIn_app (goodIn_of _ (by decide +kernel)) ggX4_digest_X4_withNumber
set_option maxRecDepth 20000 in
theorem ggX4_digest_X4_words : GoodIn wsX4_digest wsX4_words := goodIn_r _ [21, 22, 23, 24, 25, 26, 27, 28, 244, 245, 246, 247, 248, 249, 250, 251, 252, 253, 257, 258] (by decide +kernel) (by decide +kernel)
set_option maxRecDepth 20000 in
theorem gX4_digest_X4_words : GoodIn wsX4_digest (wsV RX4 206 RX4 yX4_words wsX4_words) := goodIn_app (goodIn_of _ (by decide +kernel)) ggX4_digest_X4_words
set_option maxRecDepth 20000 in
theorem ggX4_digest_X4_groups : GoodIn wsX4_digest wsX4_groups := goodIn_r _ [32, 33, 34, 35, 36, 37, 38, 39, 244, 245, 246, 247, 248, 249, 250, 251, 252, 253, 259, 260, 261, 262, 263] (by decide +kernel) (by decide +kernel)
set_option maxRecDepth 20000 in
theorem gX4_digest_X4_groups : GoodIn wsX4_digest (wsV RX4 209 RX4 yX4_groups wsX4_groups) := goodIn_app (goodIn_of _ (by decide +kernel)) ggX4_digest_X4_groups
set_option maxRecDepth 20000 in
theorem ggX4_digest_X4_counted : GoodIn wsX4_digest wsX4_counted := goodIn_r _ [43, 33, 22, 34, 35, 36, 37, 38, 39, 44, 45, 46, 47, 48, 49, 50, 51, 52, 53, 54, 55, 56, 57, 58, 59, 60, 26, 61, 62, 63, 64, 65, 66, 67, 68, 69, 70, 28, 244, 245, 246, 247, 248, 249, 250, 251, 252, 253, 259, 260, 261, 262, 263, 257, 258] (by decide +kernel) (by decide +kernel)
set_option maxRecDepth 20000 in
theorem gX4_digest_X4_counted : GoodIn wsX4_digest (wsV RX4 142 RX4 yX4_counted wsX4_counted) := goodIn_app (goodIn_of _ (by decide +kernel)) ggX4_digest_X4_counted
set_option maxRecDepth 20000 in
theorem ggX4_digest_X4_cost : GoodIn wsX4_digest wsX4_cost := goodIn_r _ [74, 40, 41, 42, 5, 43, 33, 22, 34, 35, 36, 37, 38, 39, 44, 45, 46, 47, 48, 49, 50, 51, 52, 53, 54, 55, 56, 57, 58, 59, 60, 26, 61, 62, 63, 64, 65, 66, 67, 68, 69, 70, 28, 75, 76, 77, 78, 79, 80, 81, 82, 23, 24, 25, 27, 244, 245, 246, 247, 248, 249, 250, 251, 252, 253, 259, 260, 261, 262, 263, 257, 258] (by decide +kernel) (by decide +kernel)
set_option maxRecDepth 20000 in
theorem gX4_digest_X4_cost : GoodIn wsX4_digest (wsV RX4 151 RX4 yX4_cost wsX4_cost) := goodIn_app (goodIn_of _ (by decide +kernel)) ggX4_digest_X4_cost
set_option maxRecDepth 20000 in
theorem ggX4_digest_X4_saved : GoodIn wsX4_digest wsX4_saved := goodIn_r _ [86, 22, 87, 88, 89, 26, 90, 28, 91, 59, 60, 61, 62, 63, 64, 65, 66, 67, 68, 69, 70, 75, 76, 77, 5, 78, 79, 80, 81, 82, 23, 24, 25, 27, 71, 72, 73, 74, 40, 41, 42, 43, 33, 34, 35, 36, 37, 38, 39, 44, 45, 46, 47, 48, 49, 50, 51, 52, 53, 54, 55, 56, 57, 58, 244, 245, 246, 247, 248, 249, 250, 251, 252, 253, 257, 258, 259, 260, 261, 262, 263] (by decide +kernel) (by decide +kernel)
set_option maxRecDepth 20000 in
theorem gX4_digest_X4_saved : GoodIn wsX4_digest (wsV RX4 212 RX4 yX4_saved wsX4_saved) := goodIn_app (goodIn_of _ (by decide +kernel)) ggX4_digest_X4_saved
set_option maxRecDepth 20000 in
theorem ggX4_digest_X4_sentGroups : GoodIn wsX4_digest wsX4_sentGroups := goodIn_r _ [95, 96, 244, 245, 246, 247, 248, 249, 250, 251, 252, 253] (by decide +kernel) (by decide +kernel)
set_option maxRecDepth 20000 in
theorem gX4_digest_X4_sentGroups : GoodIn wsX4_digest (wsV RX4 215 RX4 yX4_sentGroups wsX4_sentGroups) := goodIn_app (goodIn_of _ (by decide +kernel)) ggX4_digest_X4_sentGroups
set_option maxRecDepth 20000 in
theorem ggX4_digest_X4_repeats : GoodIn wsX4_digest wsX4_repeats := goodIn_r _ [100, 101, 244, 245, 246, 247, 248, 249, 250, 251, 252, 253] (by decide +kernel) (by decide +kernel)
set_option maxRecDepth 20000 in
theorem gX4_digest_X4_repeats : GoodIn wsX4_digest (wsV RX4 217 RX4 yX4_repeats wsX4_repeats) := goodIn_app (goodIn_of _ (by decide +kernel)) ggX4_digest_X4_repeats
set_option maxRecDepth 20000 in
theorem ggX4_digest_X4_lost : GoodIn wsX4_digest wsX4_lost := goodIn_r _ [105, 106, 244, 245, 246, 247, 248, 249, 250, 251, 252, 253] (by decide +kernel) (by decide +kernel)
set_option maxRecDepth 20000 in
theorem gX4_digest_X4_lost : GoodIn wsX4_digest (wsV RX4 219 RX4 yX4_lost wsX4_lost) := goodIn_app (goodIn_of _ (by decide +kernel)) ggX4_digest_X4_lost
set_option maxRecDepth 20000 in
theorem ggX4_digest_X4_earned : GoodIn wsX4_digest wsX4_earned := goodIn_r _ [110, 111, 244, 245, 246, 247, 248, 249, 250, 251, 252, 253] (by decide +kernel) (by decide +kernel)
set_option maxRecDepth 20000 in
theorem gX4_digest_X4_earned : GoodIn wsX4_digest (wsV RX4 221 RX4 yX4_earned wsX4_earned) := goodIn_app (goodIn_of _ (by decide +kernel)) ggX4_digest_X4_earned
set_option maxRecDepth 20000 in
theorem ggX4_digest_X4_untilGarbled : GoodIn wsX4_digest wsX4_untilGarbled := goodIn_r _ [115, 96, 116, 117, 118, 5, 119, 244, 245, 246, 247, 248, 249, 250, 251, 252, 253] (by decide +kernel) (by decide +kernel)
set_option maxRecDepth 20000 in
theorem gX4_digest_X4_untilGarbled : GoodIn wsX4_digest (wsV RX4 223 RX4 yX4_untilGarbled wsX4_untilGarbled) := goodIn_app (goodIn_of _ (by decide +kernel)) ggX4_digest_X4_untilGarbled
set_option maxRecDepth 20000 in
theorem ggX4_digest_X4_wouldBeGarbled : GoodIn wsX4_digest wsX4_wouldBeGarbled := goodIn_r _ [123, 124, 33, 96, 116, 34, 35, 36, 37, 38, 39, 125, 126, 127, 128, 129, 130, 131, 132, 133, 134, 135, 136, 137, 138, 139, 140, 141, 118, 5, 119, 142, 143, 144, 145, 244, 245, 246, 247, 248, 249, 250, 251, 252, 253, 259, 260, 261, 262, 263, 264, 265, 266, 267] (by decide +kernel) (by decide +kernel)
set_option maxRecDepth 20000 in
theorem gX4_digest_X4_wouldBeGarbled : GoodIn wsX4_digest (wsV RX4 226 RX4 yX4_wouldBeGarbled wsX4_wouldBeGarbled) := goodIn_app (goodIn_of _ (by decide +kernel)) ggX4_digest_X4_wouldBeGarbled
set_option maxRecDepth 20000 in
theorem ggX4_digest_X4_repeatsIfSent : GoodIn wsX4_digest wsX4_repeatsIfSent := goodIn_r _ [149, 124, 33, 96, 116, 34, 35, 36, 37, 38, 39, 125, 126, 127, 128, 129, 130, 131, 132, 133, 134, 135, 136, 137, 138, 139, 140, 141, 118, 5, 119, 150, 151, 152, 153, 244, 245, 246, 247, 248, 249, 250, 251, 252, 253, 259, 260, 261, 262, 263, 264, 265, 266, 267] (by decide +kernel) (by decide +kernel)
set_option maxRecDepth 20000 in
theorem gX4_digest_X4_repeatsIfSent : GoodIn wsX4_digest (wsV RX4 229 RX4 yX4_repeatsIfSent wsX4_repeatsIfSent) := goodIn_app (goodIn_of _ (by decide +kernel)) ggX4_digest_X4_repeatsIfSent
set_option maxRecDepth 20000 in
theorem ggX4_digest_X4_qualityWanted : GoodIn wsX4_digest wsX4_qualityWanted := goodIn_r _ [157, 124, 33, 96, 34, 35, 36, 37, 38, 39, 125, 126, 127, 128, 129, 130, 131, 132, 133, 134, 135, 136, 137, 138, 139, 140, 141, 118, 5, 119, 158, 159, 160, 161, 244, 245, 246, 247, 248, 249, 250, 251, 252, 253, 259, 260, 261, 262, 263, 264, 265, 266, 267] (by decide +kernel) (by decide +kernel)
set_option maxRecDepth 20000 in
theorem gX4_digest_X4_qualityWanted : GoodIn wsX4_digest (wsV RX4 232 RX4 yX4_qualityWanted wsX4_qualityWanted) := goodIn_app (goodIn_of _ (by decide +kernel)) ggX4_digest_X4_qualityWanted
set_option maxRecDepth 20000 in
theorem ggX4_digest_X4_uselessCode : GoodIn wsX4_digest wsX4_uselessCode := goodIn_r _ [165, 7, 166, 22, 33, 8, 9, 10, 11, 12, 13, 167, 168, 169, 37, 170, 171, 172, 173, 174, 175, 176, 81, 177, 178, 179, 24, 25, 26, 27, 28, 180, 181, 182, 183, 184, 48, 185, 186, 187, 188, 189, 190, 191, 192, 193, 194, 195, 196, 197, 198, 67, 68, 69, 70, 62, 63, 64, 65, 66, 199, 200, 201, 202, 203, 204, 205, 206, 207, 208, 209, 210, 211, 212, 213, 214, 215, 216, 39, 49, 34, 35, 36, 38, 244, 245, 246, 247, 248, 249, 250, 251, 252, 253, 254, 255, 256, 259, 260, 261, 262, 263, 257, 258] (by decide +kernel) (by decide +kernel)
set_option maxRecDepth 20000 in
theorem gX4_digest_X4_uselessCode : GoodIn wsX4_digest (wsV RX4 235 RX4 yX4_uselessCode wsX4_uselessCode) := goodIn_app (goodIn_of _ (by decide +kernel)) ggX4_digest_X4_uselessCode
set_option maxRecDepth 20000 in
theorem ggX4_digest_X4_bestStart : GoodIn wsX4_digest wsX4_bestStart := goodIn_r _ [220, 22, 166, 7, 23, 24, 25, 26, 27, 28, 221, 222, 223, 37, 224, 171, 172, 173, 174, 175, 176, 81, 177, 178, 179, 180, 181, 182, 183, 184, 48, 185, 9, 10, 11, 12, 13, 186, 187, 188, 189, 190, 191, 192, 193, 194, 195, 196, 197, 198, 67, 68, 69, 70, 62, 63, 64, 65, 66, 199, 200, 201, 202, 203, 204, 205, 206, 207, 208, 209, 210, 211, 212, 213, 214, 215, 216, 39, 49, 34, 35, 36, 38, 244, 245, 246, 247, 248, 249, 250, 251, 252, 253, 257, 258, 259, 260, 261, 262, 263, 254, 255, 256] (by decide +kernel) (by decide +kernel)
set_option maxRecDepth 20000 in
theorem gX4_digest_X4_bestStart : GoodIn wsX4_digest (wsV RX4 194 RX4 yX4_bestStart wsX4_bestStart) := goodIn_app (goodIn_of _ (by decide +kernel)) ggX4_digest_X4_bestStart
set_option maxRecDepth 20000 in
theorem ggX4_digest_X4_withCodes : GoodIn wsX4_digest wsX4_withCodes := goodIn_r _ [228, 7, 33, 8, 9, 10, 11, 12, 13, 229, 191, 192, 193, 194, 195, 196, 197, 198, 14, 15, 5, 16, 17, 230, 231, 232, 37, 233, 39, 234, 45, 46, 47, 48, 49, 50, 51, 52, 53, 244, 245, 246, 247, 248, 249, 250, 251, 252, 253, 254, 255, 256, 259, 260, 261, 262, 263] (by decide +kernel) (by decide +kernel)
set_option maxRecDepth 20000 in
theorem gX4_digest_X4_withCodes : GoodIn wsX4_digest (wsV RX4 238 RX4 yX4_withCodes wsX4_withCodes) := goodIn_app (goodIn_of _ (by decide +kernel)) ggX4_digest_X4_withCodes
set_option maxRecDepth 20000 in
theorem ggX4_digest_X4_withWords : GoodIn wsX4_digest wsX4_withWords := goodIn_r _ [238, 22, 23, 24, 25, 26, 27, 28, 239, 63, 64, 65, 66, 67, 68, 69, 70, 14, 15, 5, 16, 17, 244, 245, 246, 247, 248, 249, 250, 251, 252, 253, 257, 258] (by decide +kernel) (by decide +kernel)
set_option maxRecDepth 20000 in
theorem gX4_digest_X4_withWords : GoodIn wsX4_digest (wsV RX4 242 RX4 yX4_withWords wsX4_withWords) := goodIn_app (goodIn_of _ (by decide +kernel)) ggX4_digest_X4_withWords
set_option maxRecDepth 20000 in
theorem ggX4_digest_X4_withGroups : GoodIn wsX4_digest wsX4_withGroups := goodIn_r _ [243, 33, 34, 35, 36, 37, 38, 39, 44, 45, 46, 47, 48, 49, 50, 51, 52, 53, 14, 15, 5, 16, 17, 54, 55, 56, 57, 244, 245, 246, 247, 248, 249, 250, 251, 252, 253, 259, 260, 261, 262, 263] (by decide +kernel) (by decide +kernel)
set_option maxRecDepth 20000 in
theorem gX4_digest_X4_withGroups : GoodIn wsX4_digest (wsV RX4 245 RX4 yX4_withGroups wsX4_withGroups) := goodIn_app (goodIn_of _ (by decide +kernel)) ggX4_digest_X4_withGroups
theorem dX4_digest_0 : decode cX4_digest 0 = .ok (.ldc2_w 197, 3) := by decide +kernel
theorem dX4_digest_3 : decode cX4_digest 3 = .ok (.lstore_n 1, 1) := by decide +kernel
theorem dX4_digest_4 : decode cX4_digest 4 = .ok (.lload_n 1, 1) := by decide +kernel
theorem dX4_digest_5 : decode cX4_digest 5 = .ok (.aload_n 0, 1) := by decide +kernel
theorem dX4_digest_6 : decode cX4_digest 6 = .ok (.invokevirtual 199, 3) := by decide +kernel
theorem dX4_digest_9 : decode cX4_digest 9 = .ok (.i2l, 1) := by decide +kernel
theorem dX4_digest_10 : decode cX4_digest 10 = .ok (.invokestatic 202, 3) := by decide +kernel
theorem dX4_digest_13 : decode cX4_digest 13 = .ok (.lstore_n 1, 1) := by decide +kernel
theorem dX4_digest_14 : decode cX4_digest 14 = .ok (.lload_n 1, 1) := by decide +kernel
theorem dX4_digest_15 : decode cX4_digest 15 = .ok (.aload_n 0, 1) := by decide +kernel
theorem dX4_digest_16 : decode cX4_digest 16 = .ok (.invokevirtual 206, 3) := by decide +kernel
theorem dX4_digest_19 : decode cX4_digest 19 = .ok (.i2l, 1) := by decide +kernel
theorem dX4_digest_20 : decode cX4_digest 20 = .ok (.invokestatic 202, 3) := by decide +kernel
theorem dX4_digest_23 : decode cX4_digest 23 = .ok (.lstore_n 1, 1) := by decide +kernel
theorem dX4_digest_24 : decode cX4_digest 24 = .ok (.lload_n 1, 1) := by decide +kernel
theorem dX4_digest_25 : decode cX4_digest 25 = .ok (.aload_n 0, 1) := by decide +kernel
theorem dX4_digest_26 : decode cX4_digest 26 = .ok (.invokevirtual 209, 3) := by decide +kernel
theorem dX4_digest_29 : decode cX4_digest 29 = .ok (.i2l, 1) := by decide +kernel
theorem dX4_digest_30 : decode cX4_digest 30 = .ok (.invokestatic 202, 3) := by decide +kernel
theorem dX4_digest_33 : decode cX4_digest 33 = .ok (.lstore_n 1, 1) := by decide +kernel
theorem dX4_digest_34 : decode cX4_digest 34 = .ok (.lload_n 1, 1) := by decide +kernel
theorem dX4_digest_35 : decode cX4_digest 35 = .ok (.aload_n 0, 1) := by decide +kernel
theorem dX4_digest_36 : decode cX4_digest 36 = .ok (.invokevirtual 142, 3) := by decide +kernel
theorem dX4_digest_39 : decode cX4_digest 39 = .ok (.i2l, 1) := by decide +kernel
theorem dX4_digest_40 : decode cX4_digest 40 = .ok (.invokestatic 202, 3) := by decide +kernel
theorem dX4_digest_43 : decode cX4_digest 43 = .ok (.lstore_n 1, 1) := by decide +kernel
theorem dX4_digest_44 : decode cX4_digest 44 = .ok (.lload_n 1, 1) := by decide +kernel
theorem dX4_digest_45 : decode cX4_digest 45 = .ok (.aload_n 0, 1) := by decide +kernel
theorem dX4_digest_46 : decode cX4_digest 46 = .ok (.invokevirtual 151, 3) := by decide +kernel
theorem dX4_digest_49 : decode cX4_digest 49 = .ok (.i2l, 1) := by decide +kernel
theorem dX4_digest_50 : decode cX4_digest 50 = .ok (.invokestatic 202, 3) := by decide +kernel
theorem dX4_digest_53 : decode cX4_digest 53 = .ok (.lstore_n 1, 1) := by decide +kernel
theorem dX4_digest_54 : decode cX4_digest 54 = .ok (.lload_n 1, 1) := by decide +kernel
theorem dX4_digest_55 : decode cX4_digest 55 = .ok (.aload_n 0, 1) := by decide +kernel
theorem dX4_digest_56 : decode cX4_digest 56 = .ok (.invokevirtual 212, 3) := by decide +kernel
theorem dX4_digest_59 : decode cX4_digest 59 = .ok (.i2l, 1) := by decide +kernel
theorem dX4_digest_60 : decode cX4_digest 60 = .ok (.invokestatic 202, 3) := by decide +kernel
theorem dX4_digest_63 : decode cX4_digest 63 = .ok (.lstore_n 1, 1) := by decide +kernel
theorem dX4_digest_64 : decode cX4_digest 64 = .ok (.lload_n 1, 1) := by decide +kernel
theorem dX4_digest_65 : decode cX4_digest 65 = .ok (.aload_n 0, 1) := by decide +kernel
theorem dX4_digest_66 : decode cX4_digest 66 = .ok (.invokevirtual 215, 3) := by decide +kernel
theorem dX4_digest_69 : decode cX4_digest 69 = .ok (.i2l, 1) := by decide +kernel
theorem dX4_digest_70 : decode cX4_digest 70 = .ok (.invokestatic 202, 3) := by decide +kernel
theorem dX4_digest_73 : decode cX4_digest 73 = .ok (.lstore_n 1, 1) := by decide +kernel
theorem dX4_digest_74 : decode cX4_digest 74 = .ok (.lload_n 1, 1) := by decide +kernel
theorem dX4_digest_75 : decode cX4_digest 75 = .ok (.aload_n 0, 1) := by decide +kernel
theorem dX4_digest_76 : decode cX4_digest 76 = .ok (.invokevirtual 217, 3) := by decide +kernel
theorem dX4_digest_79 : decode cX4_digest 79 = .ok (.i2l, 1) := by decide +kernel
theorem dX4_digest_80 : decode cX4_digest 80 = .ok (.invokestatic 202, 3) := by decide +kernel
theorem dX4_digest_83 : decode cX4_digest 83 = .ok (.lstore_n 1, 1) := by decide +kernel
theorem dX4_digest_84 : decode cX4_digest 84 = .ok (.lload_n 1, 1) := by decide +kernel
theorem dX4_digest_85 : decode cX4_digest 85 = .ok (.aload_n 0, 1) := by decide +kernel
theorem dX4_digest_86 : decode cX4_digest 86 = .ok (.invokevirtual 219, 3) := by decide +kernel
theorem dX4_digest_89 : decode cX4_digest 89 = .ok (.i2l, 1) := by decide +kernel
theorem dX4_digest_90 : decode cX4_digest 90 = .ok (.invokestatic 202, 3) := by decide +kernel
theorem dX4_digest_93 : decode cX4_digest 93 = .ok (.lstore_n 1, 1) := by decide +kernel
theorem dX4_digest_94 : decode cX4_digest 94 = .ok (.lload_n 1, 1) := by decide +kernel
theorem dX4_digest_95 : decode cX4_digest 95 = .ok (.aload_n 0, 1) := by decide +kernel
theorem dX4_digest_96 : decode cX4_digest 96 = .ok (.invokevirtual 221, 3) := by decide +kernel
theorem dX4_digest_99 : decode cX4_digest 99 = .ok (.i2l, 1) := by decide +kernel
theorem dX4_digest_100 : decode cX4_digest 100 = .ok (.invokestatic 202, 3) := by decide +kernel
theorem dX4_digest_103 : decode cX4_digest 103 = .ok (.lstore_n 1, 1) := by decide +kernel
theorem dX4_digest_104 : decode cX4_digest 104 = .ok (.lload_n 1, 1) := by decide +kernel
theorem dX4_digest_105 : decode cX4_digest 105 = .ok (.aload_n 0, 1) := by decide +kernel
theorem dX4_digest_106 : decode cX4_digest 106 = .ok (.invokevirtual 223, 3) := by decide +kernel
theorem dX4_digest_109 : decode cX4_digest 109 = .ok (.i2l, 1) := by decide +kernel
theorem dX4_digest_110 : decode cX4_digest 110 = .ok (.invokestatic 202, 3) := by decide +kernel
theorem dX4_digest_113 : decode cX4_digest 113 = .ok (.lstore_n 1, 1) := by decide +kernel
theorem dX4_digest_114 : decode cX4_digest 114 = .ok (.lload_n 1, 1) := by decide +kernel
theorem dX4_digest_115 : decode cX4_digest 115 = .ok (.aload_n 0, 1) := by decide +kernel
theorem dX4_digest_116 : decode cX4_digest 116 = .ok (.invokevirtual 226, 3) := by decide +kernel
theorem dX4_digest_119 : decode cX4_digest 119 = .ok (.i2l, 1) := by decide +kernel
theorem dX4_digest_120 : decode cX4_digest 120 = .ok (.invokestatic 202, 3) := by decide +kernel
theorem dX4_digest_123 : decode cX4_digest 123 = .ok (.lstore_n 1, 1) := by decide +kernel
theorem dX4_digest_124 : decode cX4_digest 124 = .ok (.lload_n 1, 1) := by decide +kernel
theorem dX4_digest_125 : decode cX4_digest 125 = .ok (.aload_n 0, 1) := by decide +kernel
theorem dX4_digest_126 : decode cX4_digest 126 = .ok (.invokevirtual 229, 3) := by decide +kernel
theorem dX4_digest_129 : decode cX4_digest 129 = .ok (.i2l, 1) := by decide +kernel
theorem dX4_digest_130 : decode cX4_digest 130 = .ok (.invokestatic 202, 3) := by decide +kernel
theorem dX4_digest_133 : decode cX4_digest 133 = .ok (.lstore_n 1, 1) := by decide +kernel
theorem dX4_digest_134 : decode cX4_digest 134 = .ok (.lload_n 1, 1) := by decide +kernel
theorem dX4_digest_135 : decode cX4_digest 135 = .ok (.aload_n 0, 1) := by decide +kernel
theorem dX4_digest_136 : decode cX4_digest 136 = .ok (.invokevirtual 232, 3) := by decide +kernel
theorem dX4_digest_139 : decode cX4_digest 139 = .ok (.i2l, 1) := by decide +kernel
theorem dX4_digest_140 : decode cX4_digest 140 = .ok (.invokestatic 202, 3) := by decide +kernel
theorem dX4_digest_143 : decode cX4_digest 143 = .ok (.lstore_n 1, 1) := by decide +kernel
theorem dX4_digest_144 : decode cX4_digest 144 = .ok (.lload_n 1, 1) := by decide +kernel
theorem dX4_digest_145 : decode cX4_digest 145 = .ok (.aload_n 0, 1) := by decide +kernel
theorem dX4_digest_146 : decode cX4_digest 146 = .ok (.invokevirtual 235, 3) := by decide +kernel
theorem dX4_digest_149 : decode cX4_digest 149 = .ok (.i2l, 1) := by decide +kernel
theorem dX4_digest_150 : decode cX4_digest 150 = .ok (.invokestatic 202, 3) := by decide +kernel
theorem dX4_digest_153 : decode cX4_digest 153 = .ok (.lstore_n 1, 1) := by decide +kernel
theorem dX4_digest_154 : decode cX4_digest 154 = .ok (.iconst 2, 1) := by decide +kernel
theorem dX4_digest_155 : decode cX4_digest 155 = .ok (.istore_n 3, 1) := by decide +kernel
theorem dX4_digest_156 : decode cX4_digest 156 = .ok (.iload_n 3, 1) := by decide +kernel
theorem dX4_digest_157 : decode cX4_digest 157 = .ok (.iconst 4, 1) := by decide +kernel
theorem dX4_digest_158 : decode cX4_digest 158 = .ok (.if_icmp .gt 20, 3) := by decide +kernel
theorem dX4_digest_161 : decode cX4_digest 161 = .ok (.lload_n 1, 1) := by decide +kernel
theorem dX4_digest_162 : decode cX4_digest 162 = .ok (.aload_n 0, 1) := by decide +kernel
theorem dX4_digest_163 : decode cX4_digest 163 = .ok (.iload_n 3, 1) := by decide +kernel
theorem dX4_digest_164 : decode cX4_digest 164 = .ok (.invokevirtual 194, 3) := by decide +kernel
theorem dX4_digest_167 : decode cX4_digest 167 = .ok (.i2l, 1) := by decide +kernel
theorem dX4_digest_168 : decode cX4_digest 168 = .ok (.invokestatic 202, 3) := by decide +kernel
theorem dX4_digest_171 : decode cX4_digest 171 = .ok (.lstore_n 1, 1) := by decide +kernel
theorem dX4_digest_172 : decode cX4_digest 172 = .ok (.iinc 3 1, 3) := by decide +kernel
theorem dX4_digest_175 : decode cX4_digest 175 = .ok (.goto (-19), 3) := by decide +kernel
theorem dX4_digest_178 : decode cX4_digest 178 = .ok (.aload_n 0, 1) := by decide +kernel
theorem dX4_digest_179 : decode cX4_digest 179 = .ok (.aload_n 0, 1) := by decide +kernel
theorem dX4_digest_180 : decode cX4_digest 180 = .ok (.aload_n 0, 1) := by decide +kernel
theorem dX4_digest_181 : decode cX4_digest 181 = .ok (.lload_n 1, 1) := by decide +kernel
theorem dX4_digest_182 : decode cX4_digest 182 = .ok (.invokevirtual 238, 3) := by decide +kernel
theorem dX4_digest_185 : decode cX4_digest 185 = .ok (.invokevirtual 242, 3) := by decide +kernel
theorem dX4_digest_188 : decode cX4_digest 188 = .ok (.invokevirtual 245, 3) := by decide +kernel
theorem dX4_digest_191 : decode cX4_digest 191 = .ok (.lreturn, 1) := by decide +kernel
set_option maxRecDepth 20000 in
theorem ggX4_withCodes_X0_size : GoodIn wsX4_withCodes wsX0_size := goodIn_r _ [7, 8, 49, 50, 51] (by decide +kernel) (by decide +kernel)
set_option maxRecDepth 20000 in
theorem gX4_withCodes_X0_size : GoodIn wsX4_withCodes (wsV RX4 84 RX0 yX0_size wsX0_size) := goodIn_app (goodIn_of _ (by decide +kernel)) ggX4_withCodes_X0_size
set_option maxRecDepth 20000 in
theorem ggX4_withCodes_X0_wordsIn : GoodIn wsX4_withCodes wsX0_wordsIn := goodIn_r _ [12, 13, 14, 15, 16, 6, 17, 8, 49, 50, 51] (by decide +kernel) (by decide +kernel)
set_option maxRecDepth 20000 in
theorem gX4_withCodes_X0_wordsIn : GoodIn wsX4_withCodes (wsV RX4 96 RX0 yX0_wordsIn wsX0_wordsIn) := goodIn_app (goodIn_of _ (by decide +kernel)) ggX4_withCodes_X0_wordsIn
set_option maxRecDepth 20000 in
theorem ggX4_withCodes_X4_withNumber : GoodIn wsX4_withCodes wsX4_withNumber := goodIn_r _ [21, 22] (by decide +kernel) (by decide +kernel)
set_option maxRecDepth 20000 in
theorem gX4_withCodes_X4_withNumber : GoodIn wsX4_withCodes (va_wsS RX4 202 yX4_withNumber wsX4_withNumber) := goodIn_app (goodIn_of _ (by decide +kernel)) ggX4_withCodes_X4_withNumber
set_option maxRecDepth 20000 in
theorem ggX4_withCodes_X2_groupsWith : GoodIn wsX4_withCodes wsX2_groupsWith := goodIn_r _ [27, 28, 29, 30, 31, 26, 32, 33, 34, 35, 36, 37, 38, 52, 53, 54, 55, 56] (by decide +kernel) (by decide +kernel)
set_option maxRecDepth 20000 in
theorem gX4_withCodes_X2_groupsWith : GoodIn wsX4_withCodes (wsV RX4 136 RX2 yX2_groupsWith wsX2_groupsWith) := goodIn_app (goodIn_of _ (by decide +kernel)) ggX4_withCodes_X2_groupsWith
theorem dX4_withCodes_0 : decode cX4_withCodes 0 = .ok (.lload_n 1, 1) := by decide +kernel
theorem dX4_withCodes_1 : decode cX4_withCodes 1 = .ok (.lstore_n 3, 1) := by decide +kernel
theorem dX4_withCodes_2 : decode cX4_withCodes 2 = .ok (.iconst 0, 1) := by decide +kernel
theorem dX4_withCodes_3 : decode cX4_withCodes 3 = .ok (.istore 5, 2) := by decide +kernel
theorem dX4_withCodes_5 : decode cX4_withCodes 5 = .ok (.iload 5, 2) := by decide +kernel
theorem dX4_withCodes_7 : decode cX4_withCodes 7 = .ok (.aload_n 0, 1) := by decide +kernel
theorem dX4_withCodes_8 : decode cX4_withCodes 8 = .ok (.getfield 10, 3) := by decide +kernel
theorem dX4_withCodes_11 : decode cX4_withCodes 11 = .ok (.invokevirtual 84, 3) := by decide +kernel
theorem dX4_withCodes_14 : decode cX4_withCodes 14 = .ok (.if_icmp .ge 39, 3) := by decide +kernel
theorem dX4_withCodes_17 : decode cX4_withCodes 17 = .ok (.lload_n 3, 1) := by decide +kernel
theorem dX4_withCodes_18 : decode cX4_withCodes 18 = .ok (.aload_n 0, 1) := by decide +kernel
theorem dX4_withCodes_19 : decode cX4_withCodes 19 = .ok (.getfield 10, 3) := by decide +kernel
theorem dX4_withCodes_22 : decode cX4_withCodes 22 = .ok (.iload 5, 2) := by decide +kernel
theorem dX4_withCodes_24 : decode cX4_withCodes 24 = .ok (.invokevirtual 96, 3) := by decide +kernel
theorem dX4_withCodes_27 : decode cX4_withCodes 27 = .ok (.i2l, 1) := by decide +kernel
theorem dX4_withCodes_28 : decode cX4_withCodes 28 = .ok (.invokestatic 202, 3) := by decide +kernel
theorem dX4_withCodes_31 : decode cX4_withCodes 31 = .ok (.lstore_n 3, 1) := by decide +kernel
theorem dX4_withCodes_32 : decode cX4_withCodes 32 = .ok (.lload_n 3, 1) := by decide +kernel
theorem dX4_withCodes_33 : decode cX4_withCodes 33 = .ok (.aload_n 0, 1) := by decide +kernel
theorem dX4_withCodes_34 : decode cX4_withCodes 34 = .ok (.getfield 26, 3) := by decide +kernel
theorem dX4_withCodes_37 : decode cX4_withCodes 37 = .ok (.iload 5, 2) := by decide +kernel
theorem dX4_withCodes_39 : decode cX4_withCodes 39 = .ok (.invokevirtual 136, 3) := by decide +kernel
theorem dX4_withCodes_42 : decode cX4_withCodes 42 = .ok (.i2l, 1) := by decide +kernel
theorem dX4_withCodes_43 : decode cX4_withCodes 43 = .ok (.invokestatic 202, 3) := by decide +kernel
theorem dX4_withCodes_46 : decode cX4_withCodes 46 = .ok (.lstore_n 3, 1) := by decide +kernel
theorem dX4_withCodes_47 : decode cX4_withCodes 47 = .ok (.iinc 5 1, 3) := by decide +kernel
theorem dX4_withCodes_50 : decode cX4_withCodes 50 = .ok (.goto (-45), 3) := by decide +kernel
theorem dX4_withCodes_53 : decode cX4_withCodes 53 = .ok (.lload_n 3, 1) := by decide +kernel
theorem dX4_withCodes_54 : decode cX4_withCodes 54 = .ok (.lreturn, 1) := by decide +kernel
set_option maxRecDepth 20000 in
theorem ggX4_withWords_X1_size : GoodIn wsX4_withWords wsX1_size := goodIn_r _ [6, 7, 32, 33] (by decide +kernel) (by decide +kernel)
set_option maxRecDepth 20000 in
theorem gX4_withWords_X1_size : GoodIn wsX4_withWords (wsV RX4 111 RX1 yX1_size wsX1_size) := goodIn_app (goodIn_of _ (by decide +kernel)) ggX4_withWords_X1_size
set_option maxRecDepth 20000 in
theorem ggX4_withWords_X1_typeAt : GoodIn wsX4_withWords wsX1_typeAt := goodIn_r _ [11, 12, 13, 14, 15, 5, 16, 7, 32, 33] (by decide +kernel) (by decide +kernel)
set_option maxRecDepth 20000 in
theorem gX4_withWords_X1_typeAt : GoodIn wsX4_withWords (wsV RX4 114 RX1 yX1_typeAt wsX1_typeAt) := goodIn_app (goodIn_of _ (by decide +kernel)) ggX4_withWords_X1_typeAt
set_option maxRecDepth 20000 in
theorem ggX4_withWords_X4_withNumber : GoodIn wsX4_withWords wsX4_withNumber := goodIn_r _ [20, 21] (by decide +kernel) (by decide +kernel)
set_option maxRecDepth 20000 in
theorem gX4_withWords_X4_withNumber : GoodIn wsX4_withWords (va_wsS RX4 202 yX4_withNumber wsX4_withNumber) := goodIn_app (goodIn_of _ (by decide +kernel)) ggX4_withWords_X4_withNumber
theorem dX4_withWords_0 : decode cX4_withWords 0 = .ok (.lload_n 1, 1) := by decide +kernel
theorem dX4_withWords_1 : decode cX4_withWords 1 = .ok (.lstore_n 3, 1) := by decide +kernel
theorem dX4_withWords_2 : decode cX4_withWords 2 = .ok (.iconst 0, 1) := by decide +kernel
theorem dX4_withWords_3 : decode cX4_withWords 3 = .ok (.istore 5, 2) := by decide +kernel
theorem dX4_withWords_5 : decode cX4_withWords 5 = .ok (.iload 5, 2) := by decide +kernel
theorem dX4_withWords_7 : decode cX4_withWords 7 = .ok (.aload_n 0, 1) := by decide +kernel
theorem dX4_withWords_8 : decode cX4_withWords 8 = .ok (.getfield 19, 3) := by decide +kernel
theorem dX4_withWords_11 : decode cX4_withWords 11 = .ok (.invokevirtual 111, 3) := by decide +kernel
theorem dX4_withWords_14 : decode cX4_withWords 14 = .ok (.if_icmp .ge 24, 3) := by decide +kernel
theorem dX4_withWords_17 : decode cX4_withWords 17 = .ok (.lload_n 3, 1) := by decide +kernel
theorem dX4_withWords_18 : decode cX4_withWords 18 = .ok (.aload_n 0, 1) := by decide +kernel
theorem dX4_withWords_19 : decode cX4_withWords 19 = .ok (.getfield 19, 3) := by decide +kernel
theorem dX4_withWords_22 : decode cX4_withWords 22 = .ok (.iload 5, 2) := by decide +kernel
theorem dX4_withWords_24 : decode cX4_withWords 24 = .ok (.invokevirtual 114, 3) := by decide +kernel
theorem dX4_withWords_27 : decode cX4_withWords 27 = .ok (.i2l, 1) := by decide +kernel
theorem dX4_withWords_28 : decode cX4_withWords 28 = .ok (.invokestatic 202, 3) := by decide +kernel
theorem dX4_withWords_31 : decode cX4_withWords 31 = .ok (.lstore_n 3, 1) := by decide +kernel
theorem dX4_withWords_32 : decode cX4_withWords 32 = .ok (.iinc 5 1, 3) := by decide +kernel
theorem dX4_withWords_35 : decode cX4_withWords 35 = .ok (.goto (-30), 3) := by decide +kernel
theorem dX4_withWords_38 : decode cX4_withWords 38 = .ok (.lload_n 3, 1) := by decide +kernel
theorem dX4_withWords_39 : decode cX4_withWords 39 = .ok (.lreturn, 1) := by decide +kernel
set_option maxRecDepth 20000 in
theorem ggX4_withGroups_X2_size : GoodIn wsX4_withGroups wsX2_size := goodIn_r _ [6, 7, 37, 38, 39, 40, 41] (by decide +kernel) (by decide +kernel)
set_option maxRecDepth 20000 in
theorem gX4_withGroups_X2_size : GoodIn wsX4_withGroups (wsV RX4 126 RX2 yX2_size wsX2_size) := goodIn_app (goodIn_of _ (by decide +kernel)) ggX4_withGroups_X2_size
set_option maxRecDepth 20000 in
theorem ggX4_withGroups_X2_codeAt : GoodIn wsX4_withGroups wsX2_codeAt := goodIn_r _ [11, 12, 13, 14, 15, 16, 5, 17, 7, 37, 38, 39, 40, 41] (by decide +kernel) (by decide +kernel)
set_option maxRecDepth 20000 in
theorem gX4_withGroups_X2_codeAt : GoodIn wsX4_withGroups (wsV RX4 130 RX2 yX2_codeAt wsX2_codeAt) := goodIn_app (goodIn_of _ (by decide +kernel)) ggX4_withGroups_X2_codeAt
set_option maxRecDepth 20000 in
theorem ggX4_withGroups_X4_withNumber : GoodIn wsX4_withGroups wsX4_withNumber := goodIn_r _ [21, 22] (by decide +kernel) (by decide +kernel)
set_option maxRecDepth 20000 in
theorem gX4_withGroups_X4_withNumber : GoodIn wsX4_withGroups (va_wsS RX4 202 yX4_withNumber wsX4_withNumber) := goodIn_app (goodIn_of _ (by decide +kernel)) ggX4_withGroups_X4_withNumber
set_option maxRecDepth 20000 in
theorem ggX4_withGroups_X2_startAt : GoodIn wsX4_withGroups wsX2_startAt := goodIn_r _ [26, 13, 14, 15, 16, 5, 17, 7, 37, 38, 39, 40, 41] (by decide +kernel) (by decide +kernel)
set_option maxRecDepth 20000 in
theorem gX4_withGroups_X2_startAt : GoodIn wsX4_withGroups (wsV RX4 133 RX2 yX2_startAt wsX2_startAt) := goodIn_app (goodIn_of _ (by decide +kernel)) ggX4_withGroups_X2_startAt
theorem dX4_withGroups_0 : decode cX4_withGroups 0 = .ok (.lload_n 1, 1) := by decide +kernel
theorem dX4_withGroups_1 : decode cX4_withGroups 1 = .ok (.lstore_n 3, 1) := by decide +kernel
theorem dX4_withGroups_2 : decode cX4_withGroups 2 = .ok (.iconst 0, 1) := by decide +kernel
theorem dX4_withGroups_3 : decode cX4_withGroups 3 = .ok (.istore 5, 2) := by decide +kernel
theorem dX4_withGroups_5 : decode cX4_withGroups 5 = .ok (.iload 5, 2) := by decide +kernel
theorem dX4_withGroups_7 : decode cX4_withGroups 7 = .ok (.aload_n 0, 1) := by decide +kernel
theorem dX4_withGroups_8 : decode cX4_withGroups 8 = .ok (.getfield 26, 3) := by decide +kernel
theorem dX4_withGroups_11 : decode cX4_withGroups 11 = .ok (.invokevirtual 126, 3) := by decide +kernel
theorem dX4_withGroups_14 : decode cX4_withGroups 14 = .ok (.if_icmp .ge 39, 3) := by decide +kernel
theorem dX4_withGroups_17 : decode cX4_withGroups 17 = .ok (.lload_n 3, 1) := by decide +kernel
theorem dX4_withGroups_18 : decode cX4_withGroups 18 = .ok (.aload_n 0, 1) := by decide +kernel
theorem dX4_withGroups_19 : decode cX4_withGroups 19 = .ok (.getfield 26, 3) := by decide +kernel
theorem dX4_withGroups_22 : decode cX4_withGroups 22 = .ok (.iload 5, 2) := by decide +kernel
theorem dX4_withGroups_24 : decode cX4_withGroups 24 = .ok (.invokevirtual 130, 3) := by decide +kernel
theorem dX4_withGroups_27 : decode cX4_withGroups 27 = .ok (.i2l, 1) := by decide +kernel
theorem dX4_withGroups_28 : decode cX4_withGroups 28 = .ok (.invokestatic 202, 3) := by decide +kernel
theorem dX4_withGroups_31 : decode cX4_withGroups 31 = .ok (.lstore_n 3, 1) := by decide +kernel
theorem dX4_withGroups_32 : decode cX4_withGroups 32 = .ok (.lload_n 3, 1) := by decide +kernel
theorem dX4_withGroups_33 : decode cX4_withGroups 33 = .ok (.aload_n 0, 1) := by decide +kernel
theorem dX4_withGroups_34 : decode cX4_withGroups 34 = .ok (.getfield 26, 3) := by decide +kernel
theorem dX4_withGroups_37 : decode cX4_withGroups 37 = .ok (.iload 5, 2) := by decide +kernel
theorem dX4_withGroups_39 : decode cX4_withGroups 39 = .ok (.invokevirtual 133, 3) := by decide +kernel
theorem dX4_withGroups_42 : decode cX4_withGroups 42 = .ok (.i2l, 1) := by decide +kernel
theorem dX4_withGroups_43 : decode cX4_withGroups 43 = .ok (.invokestatic 202, 3) := by decide +kernel
theorem dX4_withGroups_46 : decode cX4_withGroups 46 = .ok (.lstore_n 3, 1) := by decide +kernel
theorem dX4_withGroups_47 : decode cX4_withGroups 47 = .ok (.iinc 5 1, 3) := by decide +kernel
theorem dX4_withGroups_50 : decode cX4_withGroups 50 = .ok (.goto (-45), 3) := by decide +kernel
theorem dX4_withGroups_53 : decode cX4_withGroups 53 = .ok (.lload_n 3, 1) := by decide +kernel
theorem dX4_withGroups_54 : decode cX4_withGroups 54 = .ok (.lreturn, 1) := by decide +kernel
theorem dX4_withNumber_0 : decode cX4_withNumber 0 = .ok (.lload_n 0, 1) := by decide +kernel
theorem dX4_withNumber_1 : decode cX4_withNumber 1 = .ok (.ldc2_w 248, 3) := by decide +kernel
theorem dX4_withNumber_4 : decode cX4_withNumber 4 = .ok (.lmul, 1) := by decide +kernel
theorem dX4_withNumber_5 : decode cX4_withNumber 5 = .ok (.lload_n 2, 1) := by decide +kernel
theorem dX4_withNumber_6 : decode cX4_withNumber 6 = .ok (.ladd, 1) := by decide +kernel
theorem dX4_withNumber_7 : decode cX4_withNumber 7 = .ok (.lreturn, 1) := by decide +kernel
set_option maxRecDepth 20000 in
theorem ggX4_bestStart_X1_size : GoodIn wsX4_bestStart wsX1_size := goodIn_r _ [8, 9, 93, 94] (by decide +kernel) (by decide +kernel)
set_option maxRecDepth 20000 in
theorem gX4_bestStart_X1_size : GoodIn wsX4_bestStart (wsV RX4 111 RX1 yX1_size wsX1_size) := goodIn_app (goodIn_of _ (by decide +kernel)) ggX4_bestStart_X1_size
set_option maxRecDepth 20000 in
theorem ggX4_bestStart_X2_partWithNew : GoodIn wsX4_bestStart wsX2_partWithNew := goodIn_r _ [14, 15, 16, 17, 13, 18, 19, 20, 21, 22, 23, 24, 5, 6, 7, 8, 9, 25, 26, 27, 28, 29, 30, 31, 32, 33, 34, 35, 36, 37, 38, 39, 40, 41, 42, 43, 44, 45, 46, 47, 48, 49, 50, 51, 52, 53, 54, 55, 56, 57, 58, 59, 60, 61, 62, 63, 64, 65, 66, 67, 68, 69, 70, 71, 72, 73, 74, 75, 76, 77, 78, 95, 96, 97, 98, 99, 93, 94, 100, 101, 102] (by decide +kernel) (by decide +kernel)
set_option maxRecDepth 20000 in
theorem gX4_bestStart_X2_partWithNew : GoodIn wsX4_bestStart (wsV RX4 250 RX2 yX2_partWithNew wsX2_partWithNew) := goodIn_app (goodIn_of _ (by decide +kernel)) ggX4_bestStart_X2_partWithNew
set_option maxRecDepth 20000 in
theorem ggX4_bestStart_X2_size : GoodIn wsX4_bestStart wsX2_size := goodIn_r _ [82, 77, 95, 96, 97, 98, 99] (by decide +kernel) (by decide +kernel)
set_option maxRecDepth 20000 in
theorem gX4_bestStart_X2_size : GoodIn wsX4_bestStart (wsV RX4 126 RX2 yX2_size wsX2_size) := goodIn_app (goodIn_of _ (by decide +kernel)) ggX4_bestStart_X2_size
theorem dX4_bestStart_0 : decode cX4_bestStart 0 = .ok (.iconst (-1), 1) := by decide +kernel
theorem dX4_bestStart_1 : decode cX4_bestStart 1 = .ok (.istore_n 2, 1) := by decide +kernel
theorem dX4_bestStart_2 : decode cX4_bestStart 2 = .ok (.iconst 0, 1) := by decide +kernel
theorem dX4_bestStart_3 : decode cX4_bestStart 3 = .ok (.istore_n 3, 1) := by decide +kernel
theorem dX4_bestStart_4 : decode cX4_bestStart 4 = .ok (.iconst 0, 1) := by decide +kernel
theorem dX4_bestStart_5 : decode cX4_bestStart 5 = .ok (.istore 4, 2) := by decide +kernel
theorem dX4_bestStart_7 : decode cX4_bestStart 7 = .ok (.iload 4, 2) := by decide +kernel
theorem dX4_bestStart_9 : decode cX4_bestStart 9 = .ok (.iload_n 1, 1) := by decide +kernel
theorem dX4_bestStart_10 : decode cX4_bestStart 10 = .ok (.iadd, 1) := by decide +kernel
theorem dX4_bestStart_11 : decode cX4_bestStart 11 = .ok (.aload_n 0, 1) := by decide +kernel
theorem dX4_bestStart_12 : decode cX4_bestStart 12 = .ok (.getfield 19, 3) := by decide +kernel
theorem dX4_bestStart_15 : decode cX4_bestStart 15 = .ok (.invokevirtual 111, 3) := by decide +kernel
theorem dX4_bestStart_18 : decode cX4_bestStart 18 = .ok (.if_icmp .gt 54, 3) := by decide +kernel
theorem dX4_bestStart_21 : decode cX4_bestStart 21 = .ok (.aload_n 0, 1) := by decide +kernel
theorem dX4_bestStart_22 : decode cX4_bestStart 22 = .ok (.getfield 30, 3) := by decide +kernel
theorem dX4_bestStart_25 : decode cX4_bestStart 25 = .ok (.aload_n 0, 1) := by decide +kernel
theorem dX4_bestStart_26 : decode cX4_bestStart 26 = .ok (.getfield 19, 3) := by decide +kernel
theorem dX4_bestStart_29 : decode cX4_bestStart 29 = .ok (.aload_n 0, 1) := by decide +kernel
theorem dX4_bestStart_30 : decode cX4_bestStart 30 = .ok (.getfield 10, 3) := by decide +kernel
theorem dX4_bestStart_33 : decode cX4_bestStart 33 = .ok (.iload 4, 2) := by decide +kernel
theorem dX4_bestStart_35 : decode cX4_bestStart 35 = .ok (.iload_n 1, 1) := by decide +kernel
theorem dX4_bestStart_36 : decode cX4_bestStart 36 = .ok (.invokevirtual 250, 3) := by decide +kernel
theorem dX4_bestStart_39 : decode cX4_bestStart 39 = .ok (.iload_n 2, 1) := by decide +kernel
theorem dX4_bestStart_40 : decode cX4_bestStart 40 = .ok (.iconst (-1), 1) := by decide +kernel
theorem dX4_bestStart_41 : decode cX4_bestStart 41 = .ok (.if_icmp .eq 14, 3) := by decide +kernel
theorem dX4_bestStart_44 : decode cX4_bestStart 44 = .ok (.aload_n 0, 1) := by decide +kernel
theorem dX4_bestStart_45 : decode cX4_bestStart 45 = .ok (.getfield 30, 3) := by decide +kernel
theorem dX4_bestStart_48 : decode cX4_bestStart 48 = .ok (.invokevirtual 126, 3) := by decide +kernel
theorem dX4_bestStart_51 : decode cX4_bestStart 51 = .ok (.iload_n 3, 1) := by decide +kernel
theorem dX4_bestStart_52 : decode cX4_bestStart 52 = .ok (.if_icmp .ge 14, 3) := by decide +kernel
theorem dX4_bestStart_55 : decode cX4_bestStart 55 = .ok (.iload 4, 2) := by decide +kernel
theorem dX4_bestStart_57 : decode cX4_bestStart 57 = .ok (.istore_n 2, 1) := by decide +kernel
theorem dX4_bestStart_58 : decode cX4_bestStart 58 = .ok (.aload_n 0, 1) := by decide +kernel
theorem dX4_bestStart_59 : decode cX4_bestStart 59 = .ok (.getfield 30, 3) := by decide +kernel
theorem dX4_bestStart_62 : decode cX4_bestStart 62 = .ok (.invokevirtual 126, 3) := by decide +kernel
theorem dX4_bestStart_65 : decode cX4_bestStart 65 = .ok (.istore_n 3, 1) := by decide +kernel
theorem dX4_bestStart_66 : decode cX4_bestStart 66 = .ok (.iinc 4 1, 3) := by decide +kernel
theorem dX4_bestStart_69 : decode cX4_bestStart 69 = .ok (.goto (-62), 3) := by decide +kernel
theorem dX4_bestStart_72 : decode cX4_bestStart 72 = .ok (.iload_n 2, 1) := by decide +kernel
theorem dX4_bestStart_73 : decode cX4_bestStart 73 = .ok (.ireturn, 1) := by decide +kernel
set_option maxRecDepth 20000 in
theorem ggX4_costOf_X1_size : GoodIn wsX4_costOf wsX1_size := goodIn_r _ [10, 11, 22, 23] (by decide +kernel) (by decide +kernel)
set_option maxRecDepth 20000 in
theorem gX4_costOf_X1_size : GoodIn wsX4_costOf (wsV RX4 111 RX1 yX1_size wsX1_size) := goodIn_app (goodIn_of _ (by decide +kernel)) ggX4_costOf_X1_size
theorem dX4_costOf_0 : decode cX4_costOf 0 = .ok (.aload_n 0, 1) := by decide +kernel
theorem dX4_costOf_1 : decode cX4_costOf 1 = .ok (.getfield 19, 3) := by decide +kernel
theorem dX4_costOf_4 : decode cX4_costOf 4 = .ok (.invokevirtual 111, 3) := by decide +kernel
theorem dX4_costOf_7 : decode cX4_costOf 7 = .ok (.ifCond .ne 5, 3) := by decide +kernel
theorem dX4_costOf_10 : decode cX4_costOf 10 = .ok (.iconst 0, 1) := by decide +kernel
theorem dX4_costOf_11 : decode cX4_costOf 11 = .ok (.ireturn, 1) := by decide +kernel
theorem dX4_costOf_12 : decode cX4_costOf 12 = .ok (.bipush 20, 2) := by decide +kernel
theorem dX4_costOf_14 : decode cX4_costOf 14 = .ok (.iconst 3, 1) := by decide +kernel
theorem dX4_costOf_15 : decode cX4_costOf 15 = .ok (.iconst 0, 1) := by decide +kernel
theorem dX4_costOf_16 : decode cX4_costOf 16 = .ok (.iload_n 1, 1) := by decide +kernel
theorem dX4_costOf_17 : decode cX4_costOf 17 = .ok (.bipush 10, 2) := by decide +kernel
theorem dX4_costOf_19 : decode cX4_costOf 19 = .ok (.isub, 1) := by decide +kernel
theorem dX4_costOf_20 : decode cX4_costOf 20 = .ok (.invokestatic 254, 3) := by decide +kernel
theorem dX4_costOf_23 : decode cX4_costOf 23 = .ok (.imul, 1) := by decide +kernel
theorem dX4_costOf_24 : decode cX4_costOf 24 = .ok (.iadd, 1) := by decide +kernel
theorem dX4_costOf_25 : decode cX4_costOf 25 = .ok (.ireturn, 1) := by decide +kernel
set_option maxRecDepth 20000 in
theorem ggX4_shorten_X2_partAsIs : GoodIn wsX4_shorten wsX2_partAsIs := goodIn_r _ [8, 9, 10, 11, 7, 12, 13, 14, 15, 16, 17, 18, 19, 20, 21, 22, 23, 24, 25, 26, 27, 28, 29, 30, 31, 32, 33, 34, 35, 36, 37, 38, 39, 40, 41, 42, 43, 44, 45, 46, 47, 48, 49, 50, 51, 52, 53, 54, 55, 56, 57, 58, 59, 60, 61, 62, 63, 64, 65, 66, 67, 68, 69, 70, 71, 72, 73, 74, 75, 76, 77, 88, 89, 90, 91, 92, 93, 94, 95, 96, 97] (by decide +kernel) (by decide +kernel)
set_option maxRecDepth 20000 in
theorem gX4_shorten_X2_partAsIs : GoodIn wsX4_shorten (wsV RX4 260 RX2 yX2_partAsIs wsX2_partAsIs) := goodIn_app (goodIn_of _ (by decide +kernel)) ggX4_shorten_X2_partAsIs
theorem dX4_shorten_0 : decode cX4_shorten 0 = .ok (.aload_n 0, 1) := by decide +kernel
theorem dX4_shorten_1 : decode cX4_shorten 1 = .ok (.getfield 26, 3) := by decide +kernel
theorem dX4_shorten_4 : decode cX4_shorten 4 = .ok (.aload_n 0, 1) := by decide +kernel
theorem dX4_shorten_5 : decode cX4_shorten 5 = .ok (.getfield 19, 3) := by decide +kernel
theorem dX4_shorten_8 : decode cX4_shorten 8 = .ok (.aload_n 0, 1) := by decide +kernel
theorem dX4_shorten_9 : decode cX4_shorten 9 = .ok (.getfield 10, 3) := by decide +kernel
theorem dX4_shorten_12 : decode cX4_shorten 12 = .ok (.invokevirtual 260, 3) := by decide +kernel
theorem dX4_shorten_15 : decode cX4_shorten 15 = .ok (.return_, 1) := by decide +kernel
theorem dX4_isType_0 : decode cX4_isType 0 = .ok (.iload_n 0, 1) := by decide +kernel
theorem dX4_isType_1 : decode cX4_isType 1 = .ok (.ifCond .lt 13, 3) := by decide +kernel
theorem dX4_isType_4 : decode cX4_isType 4 = .ok (.iload_n 0, 1) := by decide +kernel
theorem dX4_isType_5 : decode cX4_isType 5 = .ok (.bipush 10, 2) := by decide +kernel
theorem dX4_isType_7 : decode cX4_isType 7 = .ok (.if_icmp .ge 7, 3) := by decide +kernel
theorem dX4_isType_10 : decode cX4_isType 10 = .ok (.iconst 1, 1) := by decide +kernel
theorem dX4_isType_11 : decode cX4_isType 11 = .ok (.goto 4, 3) := by decide +kernel
theorem dX4_isType_14 : decode cX4_isType 14 = .ok (.iconst 0, 1) := by decide +kernel
theorem dX4_isType_15 : decode cX4_isType 15 = .ok (.ireturn, 1) := by decide +kernel
set_option maxRecDepth 20000 in
theorem ggX4_isTypeOrNone_X4_isType : GoodIn wsX4_isTypeOrNone wsX4_isType := goodIn_r _ [4] (by decide +kernel) (by decide +kernel)
set_option maxRecDepth 20000 in
theorem gX4_isTypeOrNone_X4_isType : GoodIn wsX4_isTypeOrNone (va_wsS RX4 44 yX4_isType wsX4_isType) := goodIn_app (goodIn_of _ (by decide +kernel)) ggX4_isTypeOrNone_X4_isType
theorem dX4_isTypeOrNone_0 : decode cX4_isTypeOrNone 0 = .ok (.iload_n 0, 1) := by decide +kernel
theorem dX4_isTypeOrNone_1 : decode cX4_isTypeOrNone 1 = .ok (.iconst (-1), 1) := by decide +kernel
theorem dX4_isTypeOrNone_2 : decode cX4_isTypeOrNone 2 = .ok (.if_icmp .eq 10, 3) := by decide +kernel
theorem dX4_isTypeOrNone_5 : decode cX4_isTypeOrNone 5 = .ok (.iload_n 0, 1) := by decide +kernel
theorem dX4_isTypeOrNone_6 : decode cX4_isTypeOrNone 6 = .ok (.invokestatic 44, 3) := by decide +kernel
theorem dX4_isTypeOrNone_9 : decode cX4_isTypeOrNone 9 = .ok (.ifCond .eq 7, 3) := by decide +kernel
theorem dX4_isTypeOrNone_12 : decode cX4_isTypeOrNone 12 = .ok (.iconst 1, 1) := by decide +kernel
theorem dX4_isTypeOrNone_13 : decode cX4_isTypeOrNone 13 = .ok (.goto 4, 3) := by decide +kernel
theorem dX4_isTypeOrNone_16 : decode cX4_isTypeOrNone 16 = .ok (.iconst 0, 1) := by decide +kernel
theorem dX4_isTypeOrNone_17 : decode cX4_isTypeOrNone 17 = .ok (.ireturn, 1) := by decide +kernel
theorem dX4_isGarbled_0 : decode cX4_isGarbled 0 = .ok (.iload_n 0, 1) := by decide +kernel
theorem dX4_isGarbled_1 : decode cX4_isGarbled 1 = .ok (.bipush 7, 2) := by decide +kernel
theorem dX4_isGarbled_3 : decode cX4_isGarbled 3 = .ok (.imul, 1) := by decide +kernel
theorem dX4_isGarbled_4 : decode cX4_isGarbled 4 = .ok (.iload_n 0, 1) := by decide +kernel
theorem dX4_isGarbled_5 : decode cX4_isGarbled 5 = .ok (.bipush 10, 2) := by decide +kernel
theorem dX4_isGarbled_7 : decode cX4_isGarbled 7 = .ok (.idiv, 1) := by decide +kernel
theorem dX4_isGarbled_8 : decode cX4_isGarbled 8 = .ok (.iadd, 1) := by decide +kernel
theorem dX4_isGarbled_9 : decode cX4_isGarbled 9 = .ok (.bipush 10, 2) := by decide +kernel
theorem dX4_isGarbled_11 : decode cX4_isGarbled 11 = .ok (.irem, 1) := by decide +kernel
theorem dX4_isGarbled_12 : decode cX4_isGarbled 12 = .ok (.iload_n 1, 1) := by decide +kernel
theorem dX4_isGarbled_13 : decode cX4_isGarbled 13 = .ok (.if_icmp .lt 7, 3) := by decide +kernel
theorem dX4_isGarbled_16 : decode cX4_isGarbled 16 = .ok (.iconst 1, 1) := by decide +kernel
theorem dX4_isGarbled_17 : decode cX4_isGarbled 17 = .ok (.goto 4, 3) := by decide +kernel
theorem dX4_isGarbled_20 : decode cX4_isGarbled 20 = .ok (.iconst 0, 1) := by decide +kernel
theorem dX4_isGarbled_21 : decode cX4_isGarbled 21 = .ok (.ireturn, 1) := by decide +kernel
end
section
theorem dX5_init_0 : decode cX5_init 0 = .ok (.aload_n 0, 1) := by decide +kernel
theorem dX5_init_1 : decode cX5_init 1 = .ok (.invokespecial 1, 3) := by decide +kernel
theorem dX5_init_4 : decode cX5_init 4 = .ok (.aload_n 0, 1) := by decide +kernel
theorem dX5_init_5 : decode cX5_init 5 = .ok (.bipush 9, 2) := by decide +kernel
theorem dX5_init_7 : decode cX5_init 7 = .ok (.newarray .int, 2) := by decide +kernel
theorem dX5_init_9 : decode cX5_init 9 = .ok (.putfield 9, 3) := by decide +kernel
theorem dX5_init_12 : decode cX5_init 12 = .ok (.aload_n 0, 1) := by decide +kernel
theorem dX5_init_13 : decode cX5_init 13 = .ok (.bipush 9, 2) := by decide +kernel
theorem dX5_init_15 : decode cX5_init 15 = .ok (.newarray .int, 2) := by decide +kernel
theorem dX5_init_17 : decode cX5_init 17 = .ok (.putfield 13, 3) := by decide +kernel
theorem dX5_init_20 : decode cX5_init 20 = .ok (.aload_n 0, 1) := by decide +kernel
theorem dX5_init_21 : decode cX5_init 21 = .ok (.bipush 24, 2) := by decide +kernel
theorem dX5_init_23 : decode cX5_init 23 = .ok (.newarray .int, 2) := by decide +kernel
theorem dX5_init_25 : decode cX5_init 25 = .ok (.putfield 16, 3) := by decide +kernel
theorem dX5_init_28 : decode cX5_init 28 = .ok (.aload_n 0, 1) := by decide +kernel
theorem dX5_init_29 : decode cX5_init 29 = .ok (.bipush 7, 2) := by decide +kernel
theorem dX5_init_31 : decode cX5_init 31 = .ok (.putfield 19, 3) := by decide +kernel
theorem dX5_init_34 : decode cX5_init 34 = .ok (.aload_n 0, 1) := by decide +kernel
theorem dX5_init_35 : decode cX5_init 35 = .ok (.bipush 25, 2) := by decide +kernel
theorem dX5_init_37 : decode cX5_init 37 = .ok (.newarray .int, 2) := by decide +kernel
theorem dX5_init_39 : decode cX5_init 39 = .ok (.putfield 23, 3) := by decide +kernel
theorem dX5_init_42 : decode cX5_init 42 = .ok (.aload_n 0, 1) := by decide +kernel
theorem dX5_init_43 : decode cX5_init 43 = .ok (.bipush 24, 2) := by decide +kernel
theorem dX5_init_45 : decode cX5_init 45 = .ok (.newarray .int, 2) := by decide +kernel
theorem dX5_init_47 : decode cX5_init 47 = .ok (.putfield 26, 3) := by decide +kernel
theorem dX5_init_50 : decode cX5_init 50 = .ok (.return_, 1) := by decide +kernel
theorem dX5_thrown_0 : decode cX5_thrown 0 = .ok (.aload_n 0, 1) := by decide +kernel
theorem dX5_thrown_1 : decode cX5_thrown 1 = .ok (.getfield 29, 3) := by decide +kernel
theorem dX5_thrown_4 : decode cX5_thrown 4 = .ok (.ireturn, 1) := by decide +kernel
theorem dX5_fail_0 : decode cX5_fail 0 = .ok (.aload_n 0, 1) := by decide +kernel
theorem dX5_fail_1 : decode cX5_fail 1 = .ok (.iload_n 1, 1) := by decide +kernel
theorem dX5_fail_2 : decode cX5_fail 2 = .ok (.putfield 29, 3) := by decide +kernel
theorem dX5_fail_5 : decode cX5_fail 5 = .ok (.iconst 0, 1) := by decide +kernel
theorem dX5_fail_6 : decode cX5_fail 6 = .ok (.ireturn, 1) := by decide +kernel
theorem dX5_told_0 : decode cX5_told 0 = .ok (.aload_n 0, 1) := by decide +kernel
theorem dX5_told_1 : decode cX5_told 1 = .ok (.iconst 0, 1) := by decide +kernel
theorem dX5_told_2 : decode cX5_told 2 = .ok (.putfield 29, 3) := by decide +kernel
theorem dX5_told_5 : decode cX5_told 5 = .ok (.iload_n 1, 1) := by decide +kernel
theorem dX5_told_6 : decode cX5_told 6 = .ok (.ireturn, 1) := by decide +kernel
theorem dX5_isIn_0 : decode cX5_isIn 0 = .ok (.iload_n 0, 1) := by decide +kernel
theorem dX5_isIn_1 : decode cX5_isIn 1 = .ok (.iload_n 1, 1) := by decide +kernel
theorem dX5_isIn_2 : decode cX5_isIn 2 = .ok (.if_icmp .lt 12, 3) := by decide +kernel
theorem dX5_isIn_5 : decode cX5_isIn 5 = .ok (.iload_n 0, 1) := by decide +kernel
theorem dX5_isIn_6 : decode cX5_isIn 6 = .ok (.iload_n 2, 1) := by decide +kernel
theorem dX5_isIn_7 : decode cX5_isIn 7 = .ok (.if_icmp .gt 7, 3) := by decide +kernel
theorem dX5_isIn_10 : decode cX5_isIn 10 = .ok (.iconst 1, 1) := by decide +kernel
theorem dX5_isIn_11 : decode cX5_isIn 11 = .ok (.goto 4, 3) := by decide +kernel
theorem dX5_isIn_14 : decode cX5_isIn 14 = .ok (.iconst 0, 1) := by decide +kernel
theorem dX5_isIn_15 : decode cX5_isIn 15 = .ok (.ireturn, 1) := by decide +kernel
set_option maxRecDepth 20000 in
theorem ggX5_isType_X5_isIn : GoodIn wsX5_isType wsX5_isIn := goodIn_r _ [4] (by decide +kernel) (by decide +kernel)
set_option maxRecDepth 20000 in
theorem gX5_isType_X5_isIn : GoodIn wsX5_isType (va_wsS RX5 32 yX5_isIn wsX5_isIn) := goodIn_app (goodIn_of _ (by decide +kernel)) ggX5_isType_X5_isIn
theorem dX5_isType_0 : decode cX5_isType 0 = .ok (.iload_n 0, 1) := by decide +kernel
theorem dX5_isType_1 : decode cX5_isType 1 = .ok (.iconst 0, 1) := by decide +kernel
theorem dX5_isType_2 : decode cX5_isType 2 = .ok (.bipush 9, 2) := by decide +kernel
theorem dX5_isType_4 : decode cX5_isType 4 = .ok (.invokestatic 32, 3) := by decide +kernel
theorem dX5_isType_7 : decode cX5_isType 7 = .ok (.ireturn, 1) := by decide +kernel
set_option maxRecDepth 20000 in
theorem ggX5_isCode_X5_isIn : GoodIn wsX5_isCode wsX5_isIn := goodIn_r _ [5] (by decide +kernel) (by decide +kernel)
set_option maxRecDepth 20000 in
theorem gX5_isCode_X5_isIn : GoodIn wsX5_isCode (va_wsS RX5 32 yX5_isIn wsX5_isIn) := goodIn_app (goodIn_of _ (by decide +kernel)) ggX5_isCode_X5_isIn
theorem dX5_isCode_0 : decode cX5_isCode 0 = .ok (.iload_n 1, 1) := by decide +kernel
theorem dX5_isCode_1 : decode cX5_isCode 1 = .ok (.iconst 0, 1) := by decide +kernel
theorem dX5_isCode_2 : decode cX5_isCode 2 = .ok (.aload_n 0, 1) := by decide +kernel
theorem dX5_isCode_3 : decode cX5_isCode 3 = .ok (.getfield 36, 3) := by decide +kernel
theorem dX5_isCode_6 : decode cX5_isCode 6 = .ok (.iconst 1, 1) := by decide +kernel
theorem dX5_isCode_7 : decode cX5_isCode 7 = .ok (.isub, 1) := by decide +kernel
theorem dX5_isCode_8 : decode cX5_isCode 8 = .ok (.invokestatic 32, 3) := by decide +kernel
theorem dX5_isCode_11 : decode cX5_isCode 11 = .ok (.ireturn, 1) := by decide +kernel
theorem dX5_keyAt_0 : decode cX5_keyAt 0 = .ok (.iload_n 1, 1) := by decide +kernel
theorem dX5_keyAt_1 : decode cX5_keyAt 1 = .ok (.iload_n 2, 1) := by decide +kernel
theorem dX5_keyAt_2 : decode cX5_keyAt 2 = .ok (.iadd, 1) := by decide +kernel
theorem dX5_keyAt_3 : decode cX5_keyAt 3 = .ok (.aload_n 0, 1) := by decide +kernel
theorem dX5_keyAt_4 : decode cX5_keyAt 4 = .ok (.getfield 39, 3) := by decide +kernel
theorem dX5_keyAt_7 : decode cX5_keyAt 7 = .ok (.if_icmp .le 5, 3) := by decide +kernel
theorem dX5_keyAt_10 : decode cX5_keyAt 10 = .ok (.iconst (-1), 1) := by decide +kernel
theorem dX5_keyAt_11 : decode cX5_keyAt 11 = .ok (.ireturn, 1) := by decide +kernel
theorem dX5_keyAt_12 : decode cX5_keyAt 12 = .ok (.iconst 0, 1) := by decide +kernel
theorem dX5_keyAt_13 : decode cX5_keyAt 13 = .ok (.istore_n 3, 1) := by decide +kernel
theorem dX5_keyAt_14 : decode cX5_keyAt 14 = .ok (.iconst 0, 1) := by decide +kernel
theorem dX5_keyAt_15 : decode cX5_keyAt 15 = .ok (.istore 4, 2) := by decide +kernel
theorem dX5_keyAt_17 : decode cX5_keyAt 17 = .ok (.iload 4, 2) := by decide +kernel
theorem dX5_keyAt_19 : decode cX5_keyAt 19 = .ok (.iload_n 2, 1) := by decide +kernel
theorem dX5_keyAt_20 : decode cX5_keyAt 20 = .ok (.if_icmp .ge 26, 3) := by decide +kernel
theorem dX5_keyAt_23 : decode cX5_keyAt 23 = .ok (.bipush 11, 2) := by decide +kernel
theorem dX5_keyAt_25 : decode cX5_keyAt 25 = .ok (.iload_n 3, 1) := by decide +kernel
theorem dX5_keyAt_26 : decode cX5_keyAt 26 = .ok (.imul, 1) := by decide +kernel
theorem dX5_keyAt_27 : decode cX5_keyAt 27 = .ok (.aload_n 0, 1) := by decide +kernel
theorem dX5_keyAt_28 : decode cX5_keyAt 28 = .ok (.getfield 16, 3) := by decide +kernel
theorem dX5_keyAt_31 : decode cX5_keyAt 31 = .ok (.iload_n 1, 1) := by decide +kernel
theorem dX5_keyAt_32 : decode cX5_keyAt 32 = .ok (.iload 4, 2) := by decide +kernel
theorem dX5_keyAt_34 : decode cX5_keyAt 34 = .ok (.iadd, 1) := by decide +kernel
theorem dX5_keyAt_35 : decode cX5_keyAt 35 = .ok (.iaload, 1) := by decide +kernel
theorem dX5_keyAt_36 : decode cX5_keyAt 36 = .ok (.iadd, 1) := by decide +kernel
theorem dX5_keyAt_37 : decode cX5_keyAt 37 = .ok (.iconst 1, 1) := by decide +kernel
theorem dX5_keyAt_38 : decode cX5_keyAt 38 = .ok (.iadd, 1) := by decide +kernel
theorem dX5_keyAt_39 : decode cX5_keyAt 39 = .ok (.istore_n 3, 1) := by decide +kernel
theorem dX5_keyAt_40 : decode cX5_keyAt 40 = .ok (.iinc 4 1, 3) := by decide +kernel
theorem dX5_keyAt_43 : decode cX5_keyAt 43 = .ok (.goto (-26), 3) := by decide +kernel
theorem dX5_keyAt_46 : decode cX5_keyAt 46 = .ok (.iload_n 3, 1) := by decide +kernel
theorem dX5_keyAt_47 : decode cX5_keyAt 47 = .ok (.ireturn, 1) := by decide +kernel
set_option maxRecDepth 20000 in
theorem ggX5_part_X5_keyAt : GoodIn wsX5_part wsX5_keyAt := goodIn_r _ [10, 2, 11, 12, 13, 14, 15, 16, 17, 18, 19, 20, 21, 22, 23, 24, 25, 26, 27, 28] (by decide +kernel) (by decide +kernel)
set_option maxRecDepth 20000 in
theorem gX5_part_X5_keyAt : GoodIn wsX5_part (wsV RX5 42 RX5 yX5_keyAt wsX5_keyAt) := goodIn_app (goodIn_of _ (by decide +kernel)) ggX5_part_X5_keyAt
theorem dX5_part_0 : decode cX5_part 0 = .ok (.aload_n 0, 1) := by decide +kernel
theorem dX5_part_1 : decode cX5_part 1 = .ok (.getfield 23, 3) := by decide +kernel
theorem dX5_part_4 : decode cX5_part 4 = .ok (.aload_n 0, 1) := by decide +kernel
theorem dX5_part_5 : decode cX5_part 5 = .ok (.getfield 39, 3) := by decide +kernel
theorem dX5_part_8 : decode cX5_part 8 = .ok (.iconst 0, 1) := by decide +kernel
theorem dX5_part_9 : decode cX5_part 9 = .ok (.iastore, 1) := by decide +kernel
theorem dX5_part_10 : decode cX5_part 10 = .ok (.aload_n 0, 1) := by decide +kernel
theorem dX5_part_11 : decode cX5_part 11 = .ok (.getfield 39, 3) := by decide +kernel
theorem dX5_part_14 : decode cX5_part 14 = .ok (.iconst 1, 1) := by decide +kernel
theorem dX5_part_15 : decode cX5_part 15 = .ok (.isub, 1) := by decide +kernel
theorem dX5_part_16 : decode cX5_part 16 = .ok (.istore_n 3, 1) := by decide +kernel
theorem dX5_part_17 : decode cX5_part 17 = .ok (.iload_n 3, 1) := by decide +kernel
theorem dX5_part_18 : decode cX5_part 18 = .ok (.ifCond .lt 153, 3) := by decide +kernel
theorem dX5_part_21 : decode cX5_part 21 = .ok (.aload_n 0, 1) := by decide +kernel
theorem dX5_part_22 : decode cX5_part 22 = .ok (.getfield 23, 3) := by decide +kernel
theorem dX5_part_25 : decode cX5_part 25 = .ok (.iload_n 3, 1) := by decide +kernel
theorem dX5_part_26 : decode cX5_part 26 = .ok (.iconst 1, 1) := by decide +kernel
theorem dX5_part_27 : decode cX5_part 27 = .ok (.iadd, 1) := by decide +kernel
theorem dX5_part_28 : decode cX5_part 28 = .ok (.iaload, 1) := by decide +kernel
theorem dX5_part_29 : decode cX5_part 29 = .ok (.iconst 1, 1) := by decide +kernel
theorem dX5_part_30 : decode cX5_part 30 = .ok (.iadd, 1) := by decide +kernel
theorem dX5_part_31 : decode cX5_part 31 = .ok (.istore 4, 2) := by decide +kernel
theorem dX5_part_33 : decode cX5_part 33 = .ok (.iconst 1, 1) := by decide +kernel
theorem dX5_part_34 : decode cX5_part 34 = .ok (.istore 5, 2) := by decide +kernel
theorem dX5_part_36 : decode cX5_part 36 = .ok (.aload_n 0, 1) := by decide +kernel
theorem dX5_part_37 : decode cX5_part 37 = .ok (.getfield 26, 3) := by decide +kernel
theorem dX5_part_40 : decode cX5_part 40 = .ok (.iload_n 3, 1) := by decide +kernel
theorem dX5_part_41 : decode cX5_part 41 = .ok (.iconst (-1), 1) := by decide +kernel
theorem dX5_part_42 : decode cX5_part 42 = .ok (.iastore, 1) := by decide +kernel
theorem dX5_part_43 : decode cX5_part 43 = .ok (.iconst 0, 1) := by decide +kernel
theorem dX5_part_44 : decode cX5_part 44 = .ok (.istore 6, 2) := by decide +kernel
theorem dX5_part_46 : decode cX5_part 46 = .ok (.iload 6, 2) := by decide +kernel
theorem dX5_part_48 : decode cX5_part 48 = .ok (.iload_n 1, 1) := by decide +kernel
theorem dX5_part_49 : decode cX5_part 49 = .ok (.if_icmp .ge 108, 3) := by decide +kernel
theorem dX5_part_52 : decode cX5_part 52 = .ok (.iload 6, 2) := by decide +kernel
theorem dX5_part_54 : decode cX5_part 54 = .ok (.iload_n 2, 1) := by decide +kernel
theorem dX5_part_55 : decode cX5_part 55 = .ok (.if_icmp .eq 96, 3) := by decide +kernel
theorem dX5_part_58 : decode cX5_part 58 = .ok (.aload_n 0, 1) := by decide +kernel
theorem dX5_part_59 : decode cX5_part 59 = .ok (.iload_n 3, 1) := by decide +kernel
theorem dX5_part_60 : decode cX5_part 60 = .ok (.aload_n 0, 1) := by decide +kernel
theorem dX5_part_61 : decode cX5_part 61 = .ok (.getfield 13, 3) := by decide +kernel
theorem dX5_part_64 : decode cX5_part 64 = .ok (.iload 6, 2) := by decide +kernel
theorem dX5_part_66 : decode cX5_part 66 = .ok (.iaload, 1) := by decide +kernel
theorem dX5_part_67 : decode cX5_part 67 = .ok (.invokevirtual 42, 3) := by decide +kernel
theorem dX5_part_70 : decode cX5_part 70 = .ok (.aload_n 0, 1) := by decide +kernel
theorem dX5_part_71 : decode cX5_part 71 = .ok (.getfield 9, 3) := by decide +kernel
theorem dX5_part_74 : decode cX5_part 74 = .ok (.iload 6, 2) := by decide +kernel
theorem dX5_part_76 : decode cX5_part 76 = .ok (.iaload, 1) := by decide +kernel
theorem dX5_part_77 : decode cX5_part 77 = .ok (.if_icmp .eq 6, 3) := by decide +kernel
theorem dX5_part_80 : decode cX5_part 80 = .ok (.goto 71, 3) := by decide +kernel
theorem dX5_part_83 : decode cX5_part 83 = .ok (.aload_n 0, 1) := by decide +kernel
theorem dX5_part_84 : decode cX5_part 84 = .ok (.getfield 23, 3) := by decide +kernel
theorem dX5_part_87 : decode cX5_part 87 = .ok (.iload_n 3, 1) := by decide +kernel
theorem dX5_part_88 : decode cX5_part 88 = .ok (.aload_n 0, 1) := by decide +kernel
theorem dX5_part_89 : decode cX5_part 89 = .ok (.getfield 13, 3) := by decide +kernel
theorem dX5_part_92 : decode cX5_part 92 = .ok (.iload 6, 2) := by decide +kernel
theorem dX5_part_94 : decode cX5_part 94 = .ok (.iaload, 1) := by decide +kernel
theorem dX5_part_95 : decode cX5_part 95 = .ok (.iadd, 1) := by decide +kernel
theorem dX5_part_96 : decode cX5_part 96 = .ok (.iaload, 1) := by decide +kernel
theorem dX5_part_97 : decode cX5_part 97 = .ok (.iconst 1, 1) := by decide +kernel
theorem dX5_part_98 : decode cX5_part 98 = .ok (.iadd, 1) := by decide +kernel
theorem dX5_part_99 : decode cX5_part 99 = .ok (.istore 7, 2) := by decide +kernel
theorem dX5_part_101 : decode cX5_part 101 = .ok (.iload 7, 2) := by decide +kernel
theorem dX5_part_103 : decode cX5_part 103 = .ok (.iload 4, 2) := by decide +kernel
theorem dX5_part_105 : decode cX5_part 105 = .ok (.if_icmp .gt 46, 3) := by decide +kernel
theorem dX5_part_108 : decode cX5_part 108 = .ok (.iload 7, 2) := by decide +kernel
theorem dX5_part_110 : decode cX5_part 110 = .ok (.iload 4, 2) := by decide +kernel
theorem dX5_part_112 : decode cX5_part 112 = .ok (.if_icmp .ne 18, 3) := by decide +kernel
theorem dX5_part_115 : decode cX5_part 115 = .ok (.aload_n 0, 1) := by decide +kernel
theorem dX5_part_116 : decode cX5_part 116 = .ok (.getfield 13, 3) := by decide +kernel
theorem dX5_part_119 : decode cX5_part 119 = .ok (.iload 6, 2) := by decide +kernel
theorem dX5_part_121 : decode cX5_part 121 = .ok (.iaload, 1) := by decide +kernel
theorem dX5_part_122 : decode cX5_part 122 = .ok (.iload 5, 2) := by decide +kernel
theorem dX5_part_124 : decode cX5_part 124 = .ok (.if_icmp .ge 6, 3) := by decide +kernel
theorem dX5_part_127 : decode cX5_part 127 = .ok (.goto 24, 3) := by decide +kernel
theorem dX5_part_130 : decode cX5_part 130 = .ok (.iload 7, 2) := by decide +kernel
theorem dX5_part_132 : decode cX5_part 132 = .ok (.istore 4, 2) := by decide +kernel
theorem dX5_part_134 : decode cX5_part 134 = .ok (.aload_n 0, 1) := by decide +kernel
theorem dX5_part_135 : decode cX5_part 135 = .ok (.getfield 13, 3) := by decide +kernel
theorem dX5_part_138 : decode cX5_part 138 = .ok (.iload 6, 2) := by decide +kernel
theorem dX5_part_140 : decode cX5_part 140 = .ok (.iaload, 1) := by decide +kernel
theorem dX5_part_141 : decode cX5_part 141 = .ok (.istore 5, 2) := by decide +kernel
theorem dX5_part_143 : decode cX5_part 143 = .ok (.aload_n 0, 1) := by decide +kernel
theorem dX5_part_144 : decode cX5_part 144 = .ok (.getfield 26, 3) := by decide +kernel
theorem dX5_part_147 : decode cX5_part 147 = .ok (.iload_n 3, 1) := by decide +kernel
theorem dX5_part_148 : decode cX5_part 148 = .ok (.iload 6, 2) := by decide +kernel
theorem dX5_part_150 : decode cX5_part 150 = .ok (.iastore, 1) := by decide +kernel
theorem dX5_part_151 : decode cX5_part 151 = .ok (.iinc 6 1, 3) := by decide +kernel
theorem dX5_part_154 : decode cX5_part 154 = .ok (.goto (-108), 3) := by decide +kernel
theorem dX5_part_157 : decode cX5_part 157 = .ok (.aload_n 0, 1) := by decide +kernel
theorem dX5_part_158 : decode cX5_part 158 = .ok (.getfield 23, 3) := by decide +kernel
theorem dX5_part_161 : decode cX5_part 161 = .ok (.iload_n 3, 1) := by decide +kernel
theorem dX5_part_162 : decode cX5_part 162 = .ok (.iload 4, 2) := by decide +kernel
theorem dX5_part_164 : decode cX5_part 164 = .ok (.iastore, 1) := by decide +kernel
theorem dX5_part_165 : decode cX5_part 165 = .ok (.iinc 3 (-1), 3) := by decide +kernel
theorem dX5_part_168 : decode cX5_part 168 = .ok (.goto (-151), 3) := by decide +kernel
theorem dX5_part_171 : decode cX5_part 171 = .ok (.return_, 1) := by decide +kernel
set_option maxRecDepth 20000 in
theorem ggX5_all_X5_part : GoodIn wsX5_all wsX5_part := goodIn_r _ [7, 2, 8, 9, 10, 11, 12, 13, 14, 6, 15, 16, 17, 18, 19, 20, 21, 22, 23, 24, 25, 26, 27, 28, 29, 30, 31, 32, 33] (by decide +kernel) (by decide +kernel)
set_option maxRecDepth 20000 in
theorem gX5_all_X5_part : GoodIn wsX5_all (wsV RX5 46 RX5 yX5_part wsX5_part) := goodIn_app (goodIn_of _ (by decide +kernel)) ggX5_all_X5_part
theorem dX5_all_0 : decode cX5_all 0 = .ok (.aload_n 0, 1) := by decide +kernel
theorem dX5_all_1 : decode cX5_all 1 = .ok (.aload_n 0, 1) := by decide +kernel
theorem dX5_all_2 : decode cX5_all 2 = .ok (.getfield 36, 3) := by decide +kernel
theorem dX5_all_5 : decode cX5_all 5 = .ok (.iconst (-1), 1) := by decide +kernel
theorem dX5_all_6 : decode cX5_all 6 = .ok (.invokevirtual 46, 3) := by decide +kernel
theorem dX5_all_9 : decode cX5_all 9 = .ok (.aload_n 0, 1) := by decide +kernel
theorem dX5_all_10 : decode cX5_all 10 = .ok (.getfield 23, 3) := by decide +kernel
theorem dX5_all_13 : decode cX5_all 13 = .ok (.iconst 0, 1) := by decide +kernel
theorem dX5_all_14 : decode cX5_all 14 = .ok (.iaload, 1) := by decide +kernel
theorem dX5_all_15 : decode cX5_all 15 = .ok (.ireturn, 1) := by decide +kernel
theorem dX5_next_0 : decode cX5_next 0 = .ok (.iload_n 1, 1) := by decide +kernel
theorem dX5_next_1 : decode cX5_next 1 = .ok (.aload_n 0, 1) := by decide +kernel
theorem dX5_next_2 : decode cX5_next 2 = .ok (.getfield 26, 3) := by decide +kernel
theorem dX5_next_5 : decode cX5_next 5 = .ok (.iload_n 1, 1) := by decide +kernel
theorem dX5_next_6 : decode cX5_next 6 = .ok (.iaload, 1) := by decide +kernel
theorem dX5_next_7 : decode cX5_next 7 = .ok (.iconst (-1), 1) := by decide +kernel
theorem dX5_next_8 : decode cX5_next 8 = .ok (.if_icmp .ne 7, 3) := by decide +kernel
theorem dX5_next_11 : decode cX5_next 11 = .ok (.iconst 1, 1) := by decide +kernel
theorem dX5_next_12 : decode cX5_next 12 = .ok (.goto 14, 3) := by decide +kernel
theorem dX5_next_15 : decode cX5_next 15 = .ok (.aload_n 0, 1) := by decide +kernel
theorem dX5_next_16 : decode cX5_next 16 = .ok (.getfield 13, 3) := by decide +kernel
theorem dX5_next_19 : decode cX5_next 19 = .ok (.aload_n 0, 1) := by decide +kernel
theorem dX5_next_20 : decode cX5_next 20 = .ok (.getfield 26, 3) := by decide +kernel
theorem dX5_next_23 : decode cX5_next 23 = .ok (.iload_n 1, 1) := by decide +kernel
theorem dX5_next_24 : decode cX5_next 24 = .ok (.iaload, 1) := by decide +kernel
theorem dX5_next_25 : decode cX5_next 25 = .ok (.iaload, 1) := by decide +kernel
theorem dX5_next_26 : decode cX5_next 26 = .ok (.iadd, 1) := by decide +kernel
theorem dX5_next_27 : decode cX5_next 27 = .ok (.ireturn, 1) := by decide +kernel
set_option maxRecDepth 20000 in
theorem ggX5_start_X5_next : GoodIn wsX5_start wsX5_next := goodIn_r _ [5, 6, 7, 8, 9, 10, 11, 12, 13, 14, 15, 16, 17, 18, 19, 20, 21, 22, 23, 24] (by decide +kernel) (by decide +kernel)
set_option maxRecDepth 20000 in
theorem gX5_start_X5_next : GoodIn wsX5_start (wsV RX5 50 RX5 yX5_next wsX5_next) := goodIn_app (goodIn_of _ (by decide +kernel)) ggX5_start_X5_next
theorem dX5_start_0 : decode cX5_start 0 = .ok (.iconst 0, 1) := by decide +kernel
theorem dX5_start_1 : decode cX5_start 1 = .ok (.istore_n 2, 1) := by decide +kernel
theorem dX5_start_2 : decode cX5_start 2 = .ok (.iconst 0, 1) := by decide +kernel
theorem dX5_start_3 : decode cX5_start 3 = .ok (.istore_n 3, 1) := by decide +kernel
theorem dX5_start_4 : decode cX5_start 4 = .ok (.iload_n 3, 1) := by decide +kernel
theorem dX5_start_5 : decode cX5_start 5 = .ok (.iload_n 1, 1) := by decide +kernel
theorem dX5_start_6 : decode cX5_start 6 = .ok (.if_icmp .ge 15, 3) := by decide +kernel
theorem dX5_start_9 : decode cX5_start 9 = .ok (.aload_n 0, 1) := by decide +kernel
theorem dX5_start_10 : decode cX5_start 10 = .ok (.iload_n 2, 1) := by decide +kernel
theorem dX5_start_11 : decode cX5_start 11 = .ok (.invokevirtual 50, 3) := by decide +kernel
theorem dX5_start_14 : decode cX5_start 14 = .ok (.istore_n 2, 1) := by decide +kernel
theorem dX5_start_15 : decode cX5_start 15 = .ok (.iinc 3 1, 3) := by decide +kernel
theorem dX5_start_18 : decode cX5_start 18 = .ok (.goto (-14), 3) := by decide +kernel
theorem dX5_start_21 : decode cX5_start 21 = .ok (.iload_n 2, 1) := by decide +kernel
theorem dX5_start_22 : decode cX5_start 22 = .ok (.ireturn, 1) := by decide +kernel
set_option maxRecDepth 20000 in
theorem ggX5_count_X5_part : GoodIn wsX5_count wsX5_part := goodIn_r _ [9, 10, 2, 3, 11, 12, 13, 14, 15, 8, 16, 4, 21, 22, 23, 24, 25, 26, 27, 28, 29, 30, 31, 32, 33, 34, 35, 36, 37] (by decide +kernel) (by decide +kernel)
set_option maxRecDepth 20000 in
theorem gX5_count_X5_part : GoodIn wsX5_count (wsV RX5 46 RX5 yX5_part wsX5_part) := goodIn_app (goodIn_of _ (by decide +kernel)) ggX5_count_X5_part
set_option maxRecDepth 20000 in
theorem ggX5_count_X5_next : GoodIn wsX5_count wsX5_next := goodIn_r _ [20, 3, 11, 21, 22, 23, 24, 25, 26, 27, 28, 29, 30, 31, 32, 33, 34, 35, 36, 37] (by decide +kernel) (by decide +kernel)
set_option maxRecDepth 20000 in
theorem gX5_count_X5_next : GoodIn wsX5_count (wsV RX5 50 RX5 yX5_next wsX5_next) := goodIn_app (goodIn_of _ (by decide +kernel)) ggX5_count_X5_next
theorem dX5_count_0 : decode cX5_count 0 = .ok (.aload_n 0, 1) := by decide +kernel
theorem dX5_count_1 : decode cX5_count 1 = .ok (.aload_n 0, 1) := by decide +kernel
theorem dX5_count_2 : decode cX5_count 2 = .ok (.getfield 36, 3) := by decide +kernel
theorem dX5_count_5 : decode cX5_count 5 = .ok (.iconst (-1), 1) := by decide +kernel
theorem dX5_count_6 : decode cX5_count 6 = .ok (.invokevirtual 46, 3) := by decide +kernel
theorem dX5_count_9 : decode cX5_count 9 = .ok (.iconst 0, 1) := by decide +kernel
theorem dX5_count_10 : decode cX5_count 10 = .ok (.istore_n 1, 1) := by decide +kernel
theorem dX5_count_11 : decode cX5_count 11 = .ok (.iconst 0, 1) := by decide +kernel
theorem dX5_count_12 : decode cX5_count 12 = .ok (.istore_n 2, 1) := by decide +kernel
theorem dX5_count_13 : decode cX5_count 13 = .ok (.iload_n 2, 1) := by decide +kernel
theorem dX5_count_14 : decode cX5_count 14 = .ok (.aload_n 0, 1) := by decide +kernel
theorem dX5_count_15 : decode cX5_count 15 = .ok (.getfield 39, 3) := by decide +kernel
theorem dX5_count_18 : decode cX5_count 18 = .ok (.if_icmp .ge 41, 3) := by decide +kernel
theorem dX5_count_21 : decode cX5_count 21 = .ok (.iload_n 1, 1) := by decide +kernel
theorem dX5_count_22 : decode cX5_count 22 = .ok (.aload_n 0, 1) := by decide +kernel
theorem dX5_count_23 : decode cX5_count 23 = .ok (.getfield 26, 3) := by decide +kernel
theorem dX5_count_26 : decode cX5_count 26 = .ok (.iload_n 2, 1) := by decide +kernel
theorem dX5_count_27 : decode cX5_count 27 = .ok (.iaload, 1) := by decide +kernel
theorem dX5_count_28 : decode cX5_count 28 = .ok (.iconst (-1), 1) := by decide +kernel
theorem dX5_count_29 : decode cX5_count 29 = .ok (.if_icmp .ne 18, 3) := by decide +kernel
theorem dX5_count_32 : decode cX5_count 32 = .ok (.aload_n 0, 1) := by decide +kernel
theorem dX5_count_33 : decode cX5_count 33 = .ok (.getfield 16, 3) := by decide +kernel
theorem dX5_count_36 : decode cX5_count 36 = .ok (.iload_n 2, 1) := by decide +kernel
theorem dX5_count_37 : decode cX5_count 37 = .ok (.iaload, 1) := by decide +kernel
theorem dX5_count_38 : decode cX5_count 38 = .ok (.bipush 7, 2) := by decide +kernel
theorem dX5_count_40 : decode cX5_count 40 = .ok (.if_icmp .le 7, 3) := by decide +kernel
theorem dX5_count_43 : decode cX5_count 43 = .ok (.iconst 2, 1) := by decide +kernel
theorem dX5_count_44 : decode cX5_count 44 = .ok (.goto 4, 3) := by decide +kernel
theorem dX5_count_47 : decode cX5_count 47 = .ok (.iconst 1, 1) := by decide +kernel
theorem dX5_count_48 : decode cX5_count 48 = .ok (.iadd, 1) := by decide +kernel
theorem dX5_count_49 : decode cX5_count 49 = .ok (.istore_n 1, 1) := by decide +kernel
theorem dX5_count_50 : decode cX5_count 50 = .ok (.aload_n 0, 1) := by decide +kernel
theorem dX5_count_51 : decode cX5_count 51 = .ok (.iload_n 2, 1) := by decide +kernel
theorem dX5_count_52 : decode cX5_count 52 = .ok (.invokevirtual 50, 3) := by decide +kernel
theorem dX5_count_55 : decode cX5_count 55 = .ok (.istore_n 2, 1) := by decide +kernel
theorem dX5_count_56 : decode cX5_count 56 = .ok (.goto (-43), 3) := by decide +kernel
theorem dX5_count_59 : decode cX5_count 59 = .ok (.iload_n 1, 1) := by decide +kernel
theorem dX5_count_60 : decode cX5_count 60 = .ok (.ireturn, 1) := by decide +kernel
theorem dX5_price_0 : decode cX5_price 0 = .ok (.aload_n 0, 1) := by decide +kernel
theorem dX5_price_1 : decode cX5_price 1 = .ok (.getfield 39, 3) := by decide +kernel
theorem dX5_price_4 : decode cX5_price 4 = .ok (.ifCond .ne 7, 3) := by decide +kernel
theorem dX5_price_7 : decode cX5_price 7 = .ok (.iconst 0, 1) := by decide +kernel
theorem dX5_price_8 : decode cX5_price 8 = .ok (.goto 16, 3) := by decide +kernel
theorem dX5_price_11 : decode cX5_price 11 = .ok (.bipush 20, 2) := by decide +kernel
theorem dX5_price_13 : decode cX5_price 13 = .ok (.iconst 3, 1) := by decide +kernel
theorem dX5_price_14 : decode cX5_price 14 = .ok (.iconst 0, 1) := by decide +kernel
theorem dX5_price_15 : decode cX5_price 15 = .ok (.iload_n 1, 1) := by decide +kernel
theorem dX5_price_16 : decode cX5_price 16 = .ok (.bipush 10, 2) := by decide +kernel
theorem dX5_price_18 : decode cX5_price 18 = .ok (.isub, 1) := by decide +kernel
theorem dX5_price_19 : decode cX5_price 19 = .ok (.invokestatic 54, 3) := by decide +kernel
theorem dX5_price_22 : decode cX5_price 22 = .ok (.imul, 1) := by decide +kernel
theorem dX5_price_23 : decode cX5_price 23 = .ok (.iadd, 1) := by decide +kernel
theorem dX5_price_24 : decode cX5_price 24 = .ok (.ireturn, 1) := by decide +kernel
set_option maxRecDepth 20000 in
theorem ggX5_priceNow_X5_count : GoodIn wsX5_priceNow wsX5_count := goodIn_r _ [5, 6, 7, 8, 9, 10, 11, 12, 4, 13, 14, 15, 16, 17, 18, 19, 20, 21, 22, 23, 24, 33, 34, 35, 36, 37, 38, 39, 40, 41, 42, 43, 44, 45, 46, 47, 48, 49] (by decide +kernel) (by decide +kernel)
set_option maxRecDepth 20000 in
theorem gX5_priceNow_X5_count : GoodIn wsX5_priceNow (wsV RX5 59 RX5 yX5_count wsX5_count) := goodIn_app (goodIn_of _ (by decide +kernel)) ggX5_priceNow_X5_count
set_option maxRecDepth 20000 in
theorem ggX5_priceNow_X5_price : GoodIn wsX5_priceNow wsX5_price := goodIn_r _ [28, 7, 29, 30, 31, 32, 33, 34, 35, 36, 37, 38, 39, 40, 41, 42, 43, 44, 45, 46, 47, 48, 49] (by decide +kernel) (by decide +kernel)
set_option maxRecDepth 20000 in
theorem gX5_priceNow_X5_price : GoodIn wsX5_priceNow (wsV RX5 63 RX5 yX5_price wsX5_price) := goodIn_app (goodIn_of _ (by decide +kernel)) ggX5_priceNow_X5_price
theorem dX5_priceNow_0 : decode cX5_priceNow 0 = .ok (.aload_n 0, 1) := by decide +kernel
theorem dX5_priceNow_1 : decode cX5_priceNow 1 = .ok (.aload_n 0, 1) := by decide +kernel
theorem dX5_priceNow_2 : decode cX5_priceNow 2 = .ok (.invokevirtual 59, 3) := by decide +kernel
theorem dX5_priceNow_5 : decode cX5_priceNow 5 = .ok (.invokevirtual 63, 3) := by decide +kernel
theorem dX5_priceNow_8 : decode cX5_priceNow 8 = .ok (.ireturn, 1) := by decide +kernel
set_option maxRecDepth 20000 in
theorem ggX5_priceOfWords_X5_price : GoodIn wsX5_priceOfWords wsX5_price := goodIn_r _ [7, 1, 8, 9, 10, 11, 12, 13, 14, 15, 16, 17, 18, 19, 20, 21, 22, 23, 24, 25, 26, 27, 28] (by decide +kernel) (by decide +kernel)
set_option maxRecDepth 20000 in
theorem gX5_priceOfWords_X5_price : GoodIn wsX5_priceOfWords (wsV RX5 63 RX5 yX5_price wsX5_price) := goodIn_app (goodIn_of _ (by decide +kernel)) ggX5_priceOfWords_X5_price
theorem dX5_priceOfWords_0 : decode cX5_priceOfWords 0 = .ok (.iconst 0, 1) := by decide +kernel
theorem dX5_priceOfWords_1 : decode cX5_priceOfWords 1 = .ok (.istore_n 1, 1) := by decide +kernel
theorem dX5_priceOfWords_2 : decode cX5_priceOfWords 2 = .ok (.iconst 0, 1) := by decide +kernel
theorem dX5_priceOfWords_3 : decode cX5_priceOfWords 3 = .ok (.istore_n 2, 1) := by decide +kernel
theorem dX5_priceOfWords_4 : decode cX5_priceOfWords 4 = .ok (.iload_n 2, 1) := by decide +kernel
theorem dX5_priceOfWords_5 : decode cX5_priceOfWords 5 = .ok (.aload_n 0, 1) := by decide +kernel
theorem dX5_priceOfWords_6 : decode cX5_priceOfWords 6 = .ok (.getfield 39, 3) := by decide +kernel
theorem dX5_priceOfWords_9 : decode cX5_priceOfWords 9 = .ok (.if_icmp .ge 28, 3) := by decide +kernel
theorem dX5_priceOfWords_12 : decode cX5_priceOfWords 12 = .ok (.iload_n 1, 1) := by decide +kernel
theorem dX5_priceOfWords_13 : decode cX5_priceOfWords 13 = .ok (.aload_n 0, 1) := by decide +kernel
theorem dX5_priceOfWords_14 : decode cX5_priceOfWords 14 = .ok (.getfield 16, 3) := by decide +kernel
theorem dX5_priceOfWords_17 : decode cX5_priceOfWords 17 = .ok (.iload_n 2, 1) := by decide +kernel
theorem dX5_priceOfWords_18 : decode cX5_priceOfWords 18 = .ok (.iaload, 1) := by decide +kernel
theorem dX5_priceOfWords_19 : decode cX5_priceOfWords 19 = .ok (.bipush 7, 2) := by decide +kernel
theorem dX5_priceOfWords_21 : decode cX5_priceOfWords 21 = .ok (.if_icmp .le 7, 3) := by decide +kernel
theorem dX5_priceOfWords_24 : decode cX5_priceOfWords 24 = .ok (.iconst 2, 1) := by decide +kernel
theorem dX5_priceOfWords_25 : decode cX5_priceOfWords 25 = .ok (.goto 4, 3) := by decide +kernel
theorem dX5_priceOfWords_28 : decode cX5_priceOfWords 28 = .ok (.iconst 1, 1) := by decide +kernel
theorem dX5_priceOfWords_29 : decode cX5_priceOfWords 29 = .ok (.iadd, 1) := by decide +kernel
theorem dX5_priceOfWords_30 : decode cX5_priceOfWords 30 = .ok (.istore_n 1, 1) := by decide +kernel
theorem dX5_priceOfWords_31 : decode cX5_priceOfWords 31 = .ok (.iinc 2 1, 3) := by decide +kernel
theorem dX5_priceOfWords_34 : decode cX5_priceOfWords 34 = .ok (.goto (-30), 3) := by decide +kernel
theorem dX5_priceOfWords_37 : decode cX5_priceOfWords 37 = .ok (.aload_n 0, 1) := by decide +kernel
theorem dX5_priceOfWords_38 : decode cX5_priceOfWords 38 = .ok (.iload_n 1, 1) := by decide +kernel
theorem dX5_priceOfWords_39 : decode cX5_priceOfWords 39 = .ok (.invokevirtual 63, 3) := by decide +kernel
theorem dX5_priceOfWords_42 : decode cX5_priceOfWords 42 = .ok (.ireturn, 1) := by decide +kernel
theorem dX5_isGarbled_0 : decode cX5_isGarbled 0 = .ok (.bipush 7, 2) := by decide +kernel
theorem dX5_isGarbled_2 : decode cX5_isGarbled 2 = .ok (.iload_n 0, 1) := by decide +kernel
theorem dX5_isGarbled_3 : decode cX5_isGarbled 3 = .ok (.imul, 1) := by decide +kernel
theorem dX5_isGarbled_4 : decode cX5_isGarbled 4 = .ok (.iload_n 0, 1) := by decide +kernel
theorem dX5_isGarbled_5 : decode cX5_isGarbled 5 = .ok (.bipush 10, 2) := by decide +kernel
theorem dX5_isGarbled_7 : decode cX5_isGarbled 7 = .ok (.idiv, 1) := by decide +kernel
theorem dX5_isGarbled_8 : decode cX5_isGarbled 8 = .ok (.iadd, 1) := by decide +kernel
theorem dX5_isGarbled_9 : decode cX5_isGarbled 9 = .ok (.bipush 10, 2) := by decide +kernel
theorem dX5_isGarbled_11 : decode cX5_isGarbled 11 = .ok (.irem, 1) := by decide +kernel
theorem dX5_isGarbled_12 : decode cX5_isGarbled 12 = .ok (.iload_n 1, 1) := by decide +kernel
theorem dX5_isGarbled_13 : decode cX5_isGarbled 13 = .ok (.if_icmp .lt 7, 3) := by decide +kernel
theorem dX5_isGarbled_16 : decode cX5_isGarbled 16 = .ok (.iconst 1, 1) := by decide +kernel
theorem dX5_isGarbled_17 : decode cX5_isGarbled 17 = .ok (.goto 4, 3) := by decide +kernel
theorem dX5_isGarbled_20 : decode cX5_isGarbled 20 = .ok (.iconst 0, 1) := by decide +kernel
theorem dX5_isGarbled_21 : decode cX5_isGarbled 21 = .ok (.ireturn, 1) := by decide +kernel
set_option maxRecDepth 20000 in
theorem ggX5_go_X5_isGarbled : GoodIn wsX5_go wsX5_isGarbled := goodIn_r _ [9] (by decide +kernel) (by decide +kernel)
set_option maxRecDepth 20000 in
theorem gX5_go_X5_isGarbled : GoodIn wsX5_go (va_wsS RX5 81 yX5_isGarbled wsX5_isGarbled) := goodIn_app (goodIn_of _ (by decide +kernel)) ggX5_go_X5_isGarbled
theorem dX5_go_0 : decode cX5_go 0 = .ok (.aload_n 0, 1) := by decide +kernel
theorem dX5_go_1 : decode cX5_go 1 = .ok (.iconst 0, 1) := by decide +kernel
theorem dX5_go_2 : decode cX5_go 2 = .ok (.putfield 66, 3) := by decide +kernel
theorem dX5_go_5 : decode cX5_go 5 = .ok (.aload_n 0, 1) := by decide +kernel
theorem dX5_go_6 : decode cX5_go 6 = .ok (.iconst 0, 1) := by decide +kernel
theorem dX5_go_7 : decode cX5_go 7 = .ok (.putfield 69, 3) := by decide +kernel
theorem dX5_go_10 : decode cX5_go 10 = .ok (.aload_n 0, 1) := by decide +kernel
theorem dX5_go_11 : decode cX5_go 11 = .ok (.iconst 0, 1) := by decide +kernel
theorem dX5_go_12 : decode cX5_go 12 = .ok (.putfield 72, 3) := by decide +kernel
theorem dX5_go_15 : decode cX5_go 15 = .ok (.aload_n 0, 1) := by decide +kernel
theorem dX5_go_16 : decode cX5_go 16 = .ok (.iconst 0, 1) := by decide +kernel
theorem dX5_go_17 : decode cX5_go 17 = .ok (.putfield 75, 3) := by decide +kernel
theorem dX5_go_20 : decode cX5_go 20 = .ok (.iconst 0, 1) := by decide +kernel
theorem dX5_go_21 : decode cX5_go 21 = .ok (.istore_n 3, 1) := by decide +kernel
theorem dX5_go_22 : decode cX5_go 22 = .ok (.iload_n 3, 1) := by decide +kernel
theorem dX5_go_23 : decode cX5_go 23 = .ok (.iload_n 1, 1) := by decide +kernel
theorem dX5_go_24 : decode cX5_go 24 = .ok (.if_icmp .ge 127, 3) := by decide +kernel
theorem dX5_go_27 : decode cX5_go 27 = .ok (.aload_n 0, 1) := by decide +kernel
theorem dX5_go_28 : decode cX5_go 28 = .ok (.dup, 1) := by decide +kernel
theorem dX5_go_29 : decode cX5_go 29 = .ok (.getfield 66, 3) := by decide +kernel
theorem dX5_go_32 : decode cX5_go 32 = .ok (.iconst 1, 1) := by decide +kernel
theorem dX5_go_33 : decode cX5_go 33 = .ok (.iadd, 1) := by decide +kernel
theorem dX5_go_34 : decode cX5_go 34 = .ok (.putfield 66, 3) := by decide +kernel
theorem dX5_go_37 : decode cX5_go 37 = .ok (.aload_n 0, 1) := by decide +kernel
theorem dX5_go_38 : decode cX5_go 38 = .ok (.getfield 78, 3) := by decide +kernel
theorem dX5_go_41 : decode cX5_go 41 = .ok (.aload_n 0, 1) := by decide +kernel
theorem dX5_go_42 : decode cX5_go 42 = .ok (.getfield 66, 3) := by decide +kernel
theorem dX5_go_45 : decode cX5_go 45 = .ok (.iadd, 1) := by decide +kernel
theorem dX5_go_46 : decode cX5_go 46 = .ok (.iload_n 2, 1) := by decide +kernel
theorem dX5_go_47 : decode cX5_go 47 = .ok (.invokestatic 81, 3) := by decide +kernel
theorem dX5_go_50 : decode cX5_go 50 = .ok (.istore 4, 2) := by decide +kernel
theorem dX5_go_52 : decode cX5_go 52 = .ok (.aload_n 0, 1) := by decide +kernel
theorem dX5_go_53 : decode cX5_go 53 = .ok (.dup, 1) := by decide +kernel
theorem dX5_go_54 : decode cX5_go 54 = .ok (.getfield 75, 3) := by decide +kernel
theorem dX5_go_57 : decode cX5_go 57 = .ok (.iload 4, 2) := by decide +kernel
theorem dX5_go_59 : decode cX5_go 59 = .ok (.ifCond .eq 7, 3) := by decide +kernel
theorem dX5_go_62 : decode cX5_go 62 = .ok (.iconst 1, 1) := by decide +kernel
theorem dX5_go_63 : decode cX5_go 63 = .ok (.goto 4, 3) := by decide +kernel
theorem dX5_go_66 : decode cX5_go 66 = .ok (.iconst 0, 1) := by decide +kernel
theorem dX5_go_67 : decode cX5_go 67 = .ok (.iadd, 1) := by decide +kernel
theorem dX5_go_68 : decode cX5_go 68 = .ok (.putfield 75, 3) := by decide +kernel
theorem dX5_go_71 : decode cX5_go 71 = .ok (.iconst 0, 1) := by decide +kernel
theorem dX5_go_72 : decode cX5_go 72 = .ok (.istore 5, 2) := by decide +kernel
theorem dX5_go_74 : decode cX5_go 74 = .ok (.iload 5, 2) := by decide +kernel
theorem dX5_go_76 : decode cX5_go 76 = .ok (.iconst 3, 1) := by decide +kernel
theorem dX5_go_77 : decode cX5_go 77 = .ok (.if_icmp .ge 49, 3) := by decide +kernel
theorem dX5_go_80 : decode cX5_go 80 = .ok (.iload 4, 2) := by decide +kernel
theorem dX5_go_82 : decode cX5_go 82 = .ok (.ifCond .eq 44, 3) := by decide +kernel
theorem dX5_go_85 : decode cX5_go 85 = .ok (.aload_n 0, 1) := by decide +kernel
theorem dX5_go_86 : decode cX5_go 86 = .ok (.dup, 1) := by decide +kernel
theorem dX5_go_87 : decode cX5_go 87 = .ok (.getfield 69, 3) := by decide +kernel
theorem dX5_go_90 : decode cX5_go 90 = .ok (.iconst 1, 1) := by decide +kernel
theorem dX5_go_91 : decode cX5_go 91 = .ok (.iadd, 1) := by decide +kernel
theorem dX5_go_92 : decode cX5_go 92 = .ok (.putfield 69, 3) := by decide +kernel
theorem dX5_go_95 : decode cX5_go 95 = .ok (.aload_n 0, 1) := by decide +kernel
theorem dX5_go_96 : decode cX5_go 96 = .ok (.dup, 1) := by decide +kernel
theorem dX5_go_97 : decode cX5_go 97 = .ok (.getfield 66, 3) := by decide +kernel
theorem dX5_go_100 : decode cX5_go 100 = .ok (.iconst 1, 1) := by decide +kernel
theorem dX5_go_101 : decode cX5_go 101 = .ok (.iadd, 1) := by decide +kernel
theorem dX5_go_102 : decode cX5_go 102 = .ok (.putfield 66, 3) := by decide +kernel
theorem dX5_go_105 : decode cX5_go 105 = .ok (.aload_n 0, 1) := by decide +kernel
theorem dX5_go_106 : decode cX5_go 106 = .ok (.getfield 78, 3) := by decide +kernel
theorem dX5_go_109 : decode cX5_go 109 = .ok (.aload_n 0, 1) := by decide +kernel
theorem dX5_go_110 : decode cX5_go 110 = .ok (.getfield 66, 3) := by decide +kernel
theorem dX5_go_113 : decode cX5_go 113 = .ok (.iadd, 1) := by decide +kernel
theorem dX5_go_114 : decode cX5_go 114 = .ok (.iload_n 2, 1) := by decide +kernel
theorem dX5_go_115 : decode cX5_go 115 = .ok (.invokestatic 81, 3) := by decide +kernel
theorem dX5_go_118 : decode cX5_go 118 = .ok (.istore 4, 2) := by decide +kernel
theorem dX5_go_120 : decode cX5_go 120 = .ok (.iinc 5 1, 3) := by decide +kernel
theorem dX5_go_123 : decode cX5_go 123 = .ok (.goto (-49), 3) := by decide +kernel
theorem dX5_go_126 : decode cX5_go 126 = .ok (.aload_n 0, 1) := by decide +kernel
theorem dX5_go_127 : decode cX5_go 127 = .ok (.dup, 1) := by decide +kernel
theorem dX5_go_128 : decode cX5_go 128 = .ok (.getfield 72, 3) := by decide +kernel
theorem dX5_go_131 : decode cX5_go 131 = .ok (.iload 4, 2) := by decide +kernel
theorem dX5_go_133 : decode cX5_go 133 = .ok (.ifCond .eq 7, 3) := by decide +kernel
theorem dX5_go_136 : decode cX5_go 136 = .ok (.iconst 1, 1) := by decide +kernel
theorem dX5_go_137 : decode cX5_go 137 = .ok (.goto 4, 3) := by decide +kernel
theorem dX5_go_140 : decode cX5_go 140 = .ok (.iconst 0, 1) := by decide +kernel
theorem dX5_go_141 : decode cX5_go 141 = .ok (.iadd, 1) := by decide +kernel
theorem dX5_go_142 : decode cX5_go 142 = .ok (.putfield 72, 3) := by decide +kernel
theorem dX5_go_145 : decode cX5_go 145 = .ok (.iinc 3 1, 3) := by decide +kernel
theorem dX5_go_148 : decode cX5_go 148 = .ok (.goto (-126), 3) := by decide +kernel
theorem dX5_go_151 : decode cX5_go 151 = .ok (.return_, 1) := by decide +kernel
set_option maxRecDepth 20000 in
theorem ggX5_addCode_X5_isType : GoodIn wsX5_addCode wsX5_isType := goodIn_r _ [8, 9, 10, 7, 11] (by decide +kernel) (by decide +kernel)
set_option maxRecDepth 20000 in
theorem gX5_addCode_X5_isType : GoodIn wsX5_addCode (va_wsS RX5 85 yX5_isType wsX5_isType) := goodIn_app (goodIn_of _ (by decide +kernel)) ggX5_addCode_X5_isType
set_option maxRecDepth 20000 in
theorem ggX5_addCode_X5_isIn : GoodIn wsX5_addCode wsX5_isIn := goodIn_r _ [11] (by decide +kernel) (by decide +kernel)
set_option maxRecDepth 20000 in
theorem gX5_addCode_X5_isIn : GoodIn wsX5_addCode (va_wsS RX5 32 yX5_isIn wsX5_isIn) := goodIn_app (goodIn_of _ (by decide +kernel)) ggX5_addCode_X5_isIn
set_option maxRecDepth 20000 in
theorem ggX5_addCode_X5_fail : GoodIn wsX5_addCode wsX5_fail := goodIn_r _ [15, 1, 16, 17, 18, 19, 20, 21, 22, 23, 24, 25, 26, 27, 28, 29, 30, 31, 32] (by decide +kernel) (by decide +kernel)
set_option maxRecDepth 20000 in
theorem gX5_addCode_X5_fail : GoodIn wsX5_addCode (wsV RX5 89 RX5 yX5_fail wsX5_fail) := goodIn_app (goodIn_of _ (by decide +kernel)) ggX5_addCode_X5_fail
theorem dX5_addCode_0 : decode cX5_addCode 0 = .ok (.aload_n 0, 1) := by decide +kernel
theorem dX5_addCode_1 : decode cX5_addCode 1 = .ok (.iconst 0, 1) := by decide +kernel
theorem dX5_addCode_2 : decode cX5_addCode 2 = .ok (.putfield 29, 3) := by decide +kernel
theorem dX5_addCode_5 : decode cX5_addCode 5 = .ok (.iload_n 1, 1) := by decide +kernel
theorem dX5_addCode_6 : decode cX5_addCode 6 = .ok (.invokestatic 85, 3) := by decide +kernel
theorem dX5_addCode_9 : decode cX5_addCode 9 = .ok (.ifCond .eq 42, 3) := by decide +kernel
theorem dX5_addCode_12 : decode cX5_addCode 12 = .ok (.iload_n 2, 1) := by decide +kernel
theorem dX5_addCode_13 : decode cX5_addCode 13 = .ok (.invokestatic 85, 3) := by decide +kernel
theorem dX5_addCode_16 : decode cX5_addCode 16 = .ok (.ifCond .eq 35, 3) := by decide +kernel
theorem dX5_addCode_19 : decode cX5_addCode 19 = .ok (.iload_n 3, 1) := by decide +kernel
theorem dX5_addCode_20 : decode cX5_addCode 20 = .ok (.iconst (-1), 1) := by decide +kernel
theorem dX5_addCode_21 : decode cX5_addCode 21 = .ok (.bipush 9, 2) := by decide +kernel
theorem dX5_addCode_23 : decode cX5_addCode 23 = .ok (.invokestatic 32, 3) := by decide +kernel
theorem dX5_addCode_26 : decode cX5_addCode 26 = .ok (.ifCond .eq 25, 3) := by decide +kernel
theorem dX5_addCode_29 : decode cX5_addCode 29 = .ok (.iload 4, 2) := by decide +kernel
theorem dX5_addCode_31 : decode cX5_addCode 31 = .ok (.iconst (-1), 1) := by decide +kernel
theorem dX5_addCode_32 : decode cX5_addCode 32 = .ok (.bipush 9, 2) := by decide +kernel
theorem dX5_addCode_34 : decode cX5_addCode 34 = .ok (.invokestatic 32, 3) := by decide +kernel
theorem dX5_addCode_37 : decode cX5_addCode 37 = .ok (.ifCond .eq 14, 3) := by decide +kernel
theorem dX5_addCode_40 : decode cX5_addCode 40 = .ok (.iload_n 3, 1) := by decide +kernel
theorem dX5_addCode_41 : decode cX5_addCode 41 = .ok (.iconst (-1), 1) := by decide +kernel
theorem dX5_addCode_42 : decode cX5_addCode 42 = .ok (.if_icmp .ne 15, 3) := by decide +kernel
theorem dX5_addCode_45 : decode cX5_addCode 45 = .ok (.iload 4, 2) := by decide +kernel
theorem dX5_addCode_47 : decode cX5_addCode 47 = .ok (.iconst (-1), 1) := by decide +kernel
theorem dX5_addCode_48 : decode cX5_addCode 48 = .ok (.if_icmp .eq 9, 3) := by decide +kernel
theorem dX5_addCode_51 : decode cX5_addCode 51 = .ok (.aload_n 0, 1) := by decide +kernel
theorem dX5_addCode_52 : decode cX5_addCode 52 = .ok (.iconst 1, 1) := by decide +kernel
theorem dX5_addCode_53 : decode cX5_addCode 53 = .ok (.invokevirtual 89, 3) := by decide +kernel
theorem dX5_addCode_56 : decode cX5_addCode 56 = .ok (.ireturn, 1) := by decide +kernel
theorem dX5_addCode_57 : decode cX5_addCode 57 = .ok (.bipush 11, 2) := by decide +kernel
theorem dX5_addCode_59 : decode cX5_addCode 59 = .ok (.iload_n 1, 1) := by decide +kernel
theorem dX5_addCode_60 : decode cX5_addCode 60 = .ok (.iconst 1, 1) := by decide +kernel
theorem dX5_addCode_61 : decode cX5_addCode 61 = .ok (.iadd, 1) := by decide +kernel
theorem dX5_addCode_62 : decode cX5_addCode 62 = .ok (.imul, 1) := by decide +kernel
theorem dX5_addCode_63 : decode cX5_addCode 63 = .ok (.iload_n 2, 1) := by decide +kernel
theorem dX5_addCode_64 : decode cX5_addCode 64 = .ok (.iadd, 1) := by decide +kernel
theorem dX5_addCode_65 : decode cX5_addCode 65 = .ok (.iconst 1, 1) := by decide +kernel
theorem dX5_addCode_66 : decode cX5_addCode 66 = .ok (.iadd, 1) := by decide +kernel
theorem dX5_addCode_67 : decode cX5_addCode 67 = .ok (.istore 5, 2) := by decide +kernel
theorem dX5_addCode_69 : decode cX5_addCode 69 = .ok (.iload_n 3, 1) := by decide +kernel
theorem dX5_addCode_70 : decode cX5_addCode 70 = .ok (.iconst (-1), 1) := by decide +kernel
theorem dX5_addCode_71 : decode cX5_addCode 71 = .ok (.if_icmp .eq 14, 3) := by decide +kernel
theorem dX5_addCode_74 : decode cX5_addCode 74 = .ok (.bipush 11, 2) := by decide +kernel
theorem dX5_addCode_76 : decode cX5_addCode 76 = .ok (.iload 5, 2) := by decide +kernel
theorem dX5_addCode_78 : decode cX5_addCode 78 = .ok (.imul, 1) := by decide +kernel
theorem dX5_addCode_79 : decode cX5_addCode 79 = .ok (.iload_n 3, 1) := by decide +kernel
theorem dX5_addCode_80 : decode cX5_addCode 80 = .ok (.iadd, 1) := by decide +kernel
theorem dX5_addCode_81 : decode cX5_addCode 81 = .ok (.iconst 1, 1) := by decide +kernel
theorem dX5_addCode_82 : decode cX5_addCode 82 = .ok (.iadd, 1) := by decide +kernel
theorem dX5_addCode_83 : decode cX5_addCode 83 = .ok (.istore 5, 2) := by decide +kernel
theorem dX5_addCode_85 : decode cX5_addCode 85 = .ok (.iload 4, 2) := by decide +kernel
theorem dX5_addCode_87 : decode cX5_addCode 87 = .ok (.iconst (-1), 1) := by decide +kernel
theorem dX5_addCode_88 : decode cX5_addCode 88 = .ok (.if_icmp .eq 15, 3) := by decide +kernel
theorem dX5_addCode_91 : decode cX5_addCode 91 = .ok (.bipush 11, 2) := by decide +kernel
theorem dX5_addCode_93 : decode cX5_addCode 93 = .ok (.iload 5, 2) := by decide +kernel
theorem dX5_addCode_95 : decode cX5_addCode 95 = .ok (.imul, 1) := by decide +kernel
theorem dX5_addCode_96 : decode cX5_addCode 96 = .ok (.iload 4, 2) := by decide +kernel
theorem dX5_addCode_98 : decode cX5_addCode 98 = .ok (.iadd, 1) := by decide +kernel
theorem dX5_addCode_99 : decode cX5_addCode 99 = .ok (.iconst 1, 1) := by decide +kernel
theorem dX5_addCode_100 : decode cX5_addCode 100 = .ok (.iadd, 1) := by decide +kernel
theorem dX5_addCode_101 : decode cX5_addCode 101 = .ok (.istore 5, 2) := by decide +kernel
theorem dX5_addCode_103 : decode cX5_addCode 103 = .ok (.aload_n 0, 1) := by decide +kernel
theorem dX5_addCode_104 : decode cX5_addCode 104 = .ok (.getfield 36, 3) := by decide +kernel
theorem dX5_addCode_107 : decode cX5_addCode 107 = .ok (.bipush 8, 2) := by decide +kernel
theorem dX5_addCode_109 : decode cX5_addCode 109 = .ok (.if_icmp .ne 7, 3) := by decide +kernel
theorem dX5_addCode_112 : decode cX5_addCode 112 = .ok (.iconst 1, 1) := by decide +kernel
theorem dX5_addCode_113 : decode cX5_addCode 113 = .ok (.goto 4, 3) := by decide +kernel
theorem dX5_addCode_116 : decode cX5_addCode 116 = .ok (.iconst 0, 1) := by decide +kernel
theorem dX5_addCode_117 : decode cX5_addCode 117 = .ok (.istore 6, 2) := by decide +kernel
theorem dX5_addCode_119 : decode cX5_addCode 119 = .ok (.iconst 0, 1) := by decide +kernel
theorem dX5_addCode_120 : decode cX5_addCode 120 = .ok (.istore 7, 2) := by decide +kernel
theorem dX5_addCode_122 : decode cX5_addCode 122 = .ok (.iload 7, 2) := by decide +kernel
theorem dX5_addCode_124 : decode cX5_addCode 124 = .ok (.aload_n 0, 1) := by decide +kernel
theorem dX5_addCode_125 : decode cX5_addCode 125 = .ok (.getfield 36, 3) := by decide +kernel
theorem dX5_addCode_128 : decode cX5_addCode 128 = .ok (.if_icmp .ge 33, 3) := by decide +kernel
theorem dX5_addCode_131 : decode cX5_addCode 131 = .ok (.iload 6, 2) := by decide +kernel
theorem dX5_addCode_133 : decode cX5_addCode 133 = .ok (.ifCond .ne 15, 3) := by decide +kernel
theorem dX5_addCode_136 : decode cX5_addCode 136 = .ok (.aload_n 0, 1) := by decide +kernel
theorem dX5_addCode_137 : decode cX5_addCode 137 = .ok (.getfield 9, 3) := by decide +kernel
theorem dX5_addCode_140 : decode cX5_addCode 140 = .ok (.iload 7, 2) := by decide +kernel
theorem dX5_addCode_142 : decode cX5_addCode 142 = .ok (.iaload, 1) := by decide +kernel
theorem dX5_addCode_143 : decode cX5_addCode 143 = .ok (.iload 5, 2) := by decide +kernel
theorem dX5_addCode_145 : decode cX5_addCode 145 = .ok (.if_icmp .ne 7, 3) := by decide +kernel
theorem dX5_addCode_148 : decode cX5_addCode 148 = .ok (.iconst 1, 1) := by decide +kernel
theorem dX5_addCode_149 : decode cX5_addCode 149 = .ok (.goto 4, 3) := by decide +kernel
theorem dX5_addCode_152 : decode cX5_addCode 152 = .ok (.iconst 0, 1) := by decide +kernel
theorem dX5_addCode_153 : decode cX5_addCode 153 = .ok (.istore 6, 2) := by decide +kernel
theorem dX5_addCode_155 : decode cX5_addCode 155 = .ok (.iinc 7 1, 3) := by decide +kernel
theorem dX5_addCode_158 : decode cX5_addCode 158 = .ok (.goto (-36), 3) := by decide +kernel
theorem dX5_addCode_161 : decode cX5_addCode 161 = .ok (.iload 6, 2) := by decide +kernel
theorem dX5_addCode_163 : decode cX5_addCode 163 = .ok (.ifCond .eq 9, 3) := by decide +kernel
theorem dX5_addCode_166 : decode cX5_addCode 166 = .ok (.aload_n 0, 1) := by decide +kernel
theorem dX5_addCode_167 : decode cX5_addCode 167 = .ok (.iconst 2, 1) := by decide +kernel
theorem dX5_addCode_168 : decode cX5_addCode 168 = .ok (.invokevirtual 89, 3) := by decide +kernel
theorem dX5_addCode_171 : decode cX5_addCode 171 = .ok (.ireturn, 1) := by decide +kernel
theorem dX5_addCode_172 : decode cX5_addCode 172 = .ok (.aload_n 0, 1) := by decide +kernel
theorem dX5_addCode_173 : decode cX5_addCode 173 = .ok (.getfield 9, 3) := by decide +kernel
theorem dX5_addCode_176 : decode cX5_addCode 176 = .ok (.aload_n 0, 1) := by decide +kernel
theorem dX5_addCode_177 : decode cX5_addCode 177 = .ok (.getfield 36, 3) := by decide +kernel
theorem dX5_addCode_180 : decode cX5_addCode 180 = .ok (.iload 5, 2) := by decide +kernel
theorem dX5_addCode_182 : decode cX5_addCode 182 = .ok (.iastore, 1) := by decide +kernel
theorem dX5_addCode_183 : decode cX5_addCode 183 = .ok (.aload_n 0, 1) := by decide +kernel
theorem dX5_addCode_184 : decode cX5_addCode 184 = .ok (.getfield 13, 3) := by decide +kernel
theorem dX5_addCode_187 : decode cX5_addCode 187 = .ok (.aload_n 0, 1) := by decide +kernel
theorem dX5_addCode_188 : decode cX5_addCode 188 = .ok (.getfield 36, 3) := by decide +kernel
theorem dX5_addCode_191 : decode cX5_addCode 191 = .ok (.iload_n 3, 1) := by decide +kernel
theorem dX5_addCode_192 : decode cX5_addCode 192 = .ok (.iconst (-1), 1) := by decide +kernel
theorem dX5_addCode_193 : decode cX5_addCode 193 = .ok (.if_icmp .ne 7, 3) := by decide +kernel
theorem dX5_addCode_196 : decode cX5_addCode 196 = .ok (.iconst 2, 1) := by decide +kernel
theorem dX5_addCode_197 : decode cX5_addCode 197 = .ok (.goto 14, 3) := by decide +kernel
theorem dX5_addCode_200 : decode cX5_addCode 200 = .ok (.iload 4, 2) := by decide +kernel
theorem dX5_addCode_202 : decode cX5_addCode 202 = .ok (.iconst (-1), 1) := by decide +kernel
theorem dX5_addCode_203 : decode cX5_addCode 203 = .ok (.if_icmp .ne 7, 3) := by decide +kernel
theorem dX5_addCode_206 : decode cX5_addCode 206 = .ok (.iconst 3, 1) := by decide +kernel
theorem dX5_addCode_207 : decode cX5_addCode 207 = .ok (.goto 4, 3) := by decide +kernel
theorem dX5_addCode_210 : decode cX5_addCode 210 = .ok (.iconst 4, 1) := by decide +kernel
theorem dX5_addCode_211 : decode cX5_addCode 211 = .ok (.iastore, 1) := by decide +kernel
theorem dX5_addCode_212 : decode cX5_addCode 212 = .ok (.aload_n 0, 1) := by decide +kernel
theorem dX5_addCode_213 : decode cX5_addCode 213 = .ok (.dup, 1) := by decide +kernel
theorem dX5_addCode_214 : decode cX5_addCode 214 = .ok (.getfield 36, 3) := by decide +kernel
theorem dX5_addCode_217 : decode cX5_addCode 217 = .ok (.iconst 1, 1) := by decide +kernel
theorem dX5_addCode_218 : decode cX5_addCode 218 = .ok (.iadd, 1) := by decide +kernel
theorem dX5_addCode_219 : decode cX5_addCode 219 = .ok (.putfield 36, 3) := by decide +kernel
theorem dX5_addCode_222 : decode cX5_addCode 222 = .ok (.aload_n 0, 1) := by decide +kernel
theorem dX5_addCode_223 : decode cX5_addCode 223 = .ok (.getfield 36, 3) := by decide +kernel
theorem dX5_addCode_226 : decode cX5_addCode 226 = .ok (.iconst 1, 1) := by decide +kernel
theorem dX5_addCode_227 : decode cX5_addCode 227 = .ok (.isub, 1) := by decide +kernel
theorem dX5_addCode_228 : decode cX5_addCode 228 = .ok (.ireturn, 1) := by decide +kernel
set_option maxRecDepth 20000 in
theorem ggX5_dropCode_X5_isCode : GoodIn wsX5_dropCode wsX5_isCode := goodIn_r _ [9, 3, 10, 11, 8, 12, 17, 18, 19, 20, 21, 22, 23, 24, 25, 26, 27, 28, 29, 30, 31, 32, 33] (by decide +kernel) (by decide +kernel)
set_option maxRecDepth 20000 in
theorem gX5_dropCode_X5_isCode : GoodIn wsX5_dropCode (wsV RX5 92 RX5 yX5_isCode wsX5_isCode) := goodIn_app (goodIn_of _ (by decide +kernel)) ggX5_dropCode_X5_isCode
set_option maxRecDepth 20000 in
theorem ggX5_dropCode_X5_fail : GoodIn wsX5_dropCode wsX5_fail := goodIn_r _ [16, 1, 17, 18, 19, 20, 21, 22, 23, 24, 25, 26, 27, 28, 29, 30, 31, 32, 33] (by decide +kernel) (by decide +kernel)
set_option maxRecDepth 20000 in
theorem gX5_dropCode_X5_fail : GoodIn wsX5_dropCode (wsV RX5 89 RX5 yX5_fail wsX5_fail) := goodIn_app (goodIn_of _ (by decide +kernel)) ggX5_dropCode_X5_fail
theorem dX5_dropCode_0 : decode cX5_dropCode 0 = .ok (.aload_n 0, 1) := by decide +kernel
theorem dX5_dropCode_1 : decode cX5_dropCode 1 = .ok (.iconst 0, 1) := by decide +kernel
theorem dX5_dropCode_2 : decode cX5_dropCode 2 = .ok (.putfield 29, 3) := by decide +kernel
theorem dX5_dropCode_5 : decode cX5_dropCode 5 = .ok (.aload_n 0, 1) := by decide +kernel
theorem dX5_dropCode_6 : decode cX5_dropCode 6 = .ok (.iload_n 1, 1) := by decide +kernel
theorem dX5_dropCode_7 : decode cX5_dropCode 7 = .ok (.invokevirtual 92, 3) := by decide +kernel
theorem dX5_dropCode_10 : decode cX5_dropCode 10 = .ok (.ifCond .ne 9, 3) := by decide +kernel
theorem dX5_dropCode_13 : decode cX5_dropCode 13 = .ok (.aload_n 0, 1) := by decide +kernel
theorem dX5_dropCode_14 : decode cX5_dropCode 14 = .ok (.iconst 1, 1) := by decide +kernel
theorem dX5_dropCode_15 : decode cX5_dropCode 15 = .ok (.invokevirtual 89, 3) := by decide +kernel
theorem dX5_dropCode_18 : decode cX5_dropCode 18 = .ok (.ireturn, 1) := by decide +kernel
theorem dX5_dropCode_19 : decode cX5_dropCode 19 = .ok (.aload_n 0, 1) := by decide +kernel
theorem dX5_dropCode_20 : decode cX5_dropCode 20 = .ok (.getfield 13, 3) := by decide +kernel
theorem dX5_dropCode_23 : decode cX5_dropCode 23 = .ok (.iload_n 1, 1) := by decide +kernel
theorem dX5_dropCode_24 : decode cX5_dropCode 24 = .ok (.iaload, 1) := by decide +kernel
theorem dX5_dropCode_25 : decode cX5_dropCode 25 = .ok (.istore_n 2, 1) := by decide +kernel
theorem dX5_dropCode_26 : decode cX5_dropCode 26 = .ok (.aload_n 0, 1) := by decide +kernel
theorem dX5_dropCode_27 : decode cX5_dropCode 27 = .ok (.dup, 1) := by decide +kernel
theorem dX5_dropCode_28 : decode cX5_dropCode 28 = .ok (.getfield 36, 3) := by decide +kernel
theorem dX5_dropCode_31 : decode cX5_dropCode 31 = .ok (.iconst 1, 1) := by decide +kernel
theorem dX5_dropCode_32 : decode cX5_dropCode 32 = .ok (.isub, 1) := by decide +kernel
theorem dX5_dropCode_33 : decode cX5_dropCode 33 = .ok (.putfield 36, 3) := by decide +kernel
theorem dX5_dropCode_36 : decode cX5_dropCode 36 = .ok (.iload_n 1, 1) := by decide +kernel
theorem dX5_dropCode_37 : decode cX5_dropCode 37 = .ok (.istore_n 3, 1) := by decide +kernel
theorem dX5_dropCode_38 : decode cX5_dropCode 38 = .ok (.iload_n 3, 1) := by decide +kernel
theorem dX5_dropCode_39 : decode cX5_dropCode 39 = .ok (.aload_n 0, 1) := by decide +kernel
theorem dX5_dropCode_40 : decode cX5_dropCode 40 = .ok (.getfield 36, 3) := by decide +kernel
theorem dX5_dropCode_43 : decode cX5_dropCode 43 = .ok (.if_icmp .ge 37, 3) := by decide +kernel
theorem dX5_dropCode_46 : decode cX5_dropCode 46 = .ok (.aload_n 0, 1) := by decide +kernel
theorem dX5_dropCode_47 : decode cX5_dropCode 47 = .ok (.getfield 9, 3) := by decide +kernel
theorem dX5_dropCode_50 : decode cX5_dropCode 50 = .ok (.iload_n 3, 1) := by decide +kernel
theorem dX5_dropCode_51 : decode cX5_dropCode 51 = .ok (.aload_n 0, 1) := by decide +kernel
theorem dX5_dropCode_52 : decode cX5_dropCode 52 = .ok (.getfield 9, 3) := by decide +kernel
theorem dX5_dropCode_55 : decode cX5_dropCode 55 = .ok (.iload_n 3, 1) := by decide +kernel
theorem dX5_dropCode_56 : decode cX5_dropCode 56 = .ok (.iconst 1, 1) := by decide +kernel
theorem dX5_dropCode_57 : decode cX5_dropCode 57 = .ok (.iadd, 1) := by decide +kernel
theorem dX5_dropCode_58 : decode cX5_dropCode 58 = .ok (.iaload, 1) := by decide +kernel
theorem dX5_dropCode_59 : decode cX5_dropCode 59 = .ok (.iastore, 1) := by decide +kernel
theorem dX5_dropCode_60 : decode cX5_dropCode 60 = .ok (.aload_n 0, 1) := by decide +kernel
theorem dX5_dropCode_61 : decode cX5_dropCode 61 = .ok (.getfield 13, 3) := by decide +kernel
theorem dX5_dropCode_64 : decode cX5_dropCode 64 = .ok (.iload_n 3, 1) := by decide +kernel
theorem dX5_dropCode_65 : decode cX5_dropCode 65 = .ok (.aload_n 0, 1) := by decide +kernel
theorem dX5_dropCode_66 : decode cX5_dropCode 66 = .ok (.getfield 13, 3) := by decide +kernel
theorem dX5_dropCode_69 : decode cX5_dropCode 69 = .ok (.iload_n 3, 1) := by decide +kernel
theorem dX5_dropCode_70 : decode cX5_dropCode 70 = .ok (.iconst 1, 1) := by decide +kernel
theorem dX5_dropCode_71 : decode cX5_dropCode 71 = .ok (.iadd, 1) := by decide +kernel
theorem dX5_dropCode_72 : decode cX5_dropCode 72 = .ok (.iaload, 1) := by decide +kernel
theorem dX5_dropCode_73 : decode cX5_dropCode 73 = .ok (.iastore, 1) := by decide +kernel
theorem dX5_dropCode_74 : decode cX5_dropCode 74 = .ok (.iinc 3 1, 3) := by decide +kernel
theorem dX5_dropCode_77 : decode cX5_dropCode 77 = .ok (.goto (-39), 3) := by decide +kernel
theorem dX5_dropCode_80 : decode cX5_dropCode 80 = .ok (.iload_n 2, 1) := by decide +kernel
theorem dX5_dropCode_81 : decode cX5_dropCode 81 = .ok (.ireturn, 1) := by decide +kernel
set_option maxRecDepth 20000 in
theorem ggX5_codes_X5_told : GoodIn wsX5_codes wsX5_told := goodIn_r _ [6, 7, 8, 9, 10, 11, 12, 13, 14, 15, 16, 17, 18, 19, 20, 21, 22, 23, 24] (by decide +kernel) (by decide +kernel)
set_option maxRecDepth 20000 in
theorem gX5_codes_X5_told : GoodIn wsX5_codes (wsV RX5 95 RX5 yX5_told wsX5_told) := goodIn_app (goodIn_of _ (by decide +kernel)) ggX5_codes_X5_told
theorem dX5_codes_0 : decode cX5_codes 0 = .ok (.aload_n 0, 1) := by decide +kernel
theorem dX5_codes_1 : decode cX5_codes 1 = .ok (.aload_n 0, 1) := by decide +kernel
theorem dX5_codes_2 : decode cX5_codes 2 = .ok (.getfield 36, 3) := by decide +kernel
theorem dX5_codes_5 : decode cX5_codes 5 = .ok (.invokevirtual 95, 3) := by decide +kernel
theorem dX5_codes_8 : decode cX5_codes 8 = .ok (.ireturn, 1) := by decide +kernel
set_option maxRecDepth 20000 in
theorem ggX5_lengthOf_X5_isCode : GoodIn wsX5_lengthOf wsX5_isCode := goodIn_r _ [7, 8, 9, 10, 6, 11, 16, 17, 18, 19, 20, 21, 22, 23, 24, 25, 26, 27, 28, 29, 30, 31, 32] (by decide +kernel) (by decide +kernel)
set_option maxRecDepth 20000 in
theorem gX5_lengthOf_X5_isCode : GoodIn wsX5_lengthOf (wsV RX5 92 RX5 yX5_isCode wsX5_isCode) := goodIn_app (goodIn_of _ (by decide +kernel)) ggX5_lengthOf_X5_isCode
set_option maxRecDepth 20000 in
theorem ggX5_lengthOf_X5_fail : GoodIn wsX5_lengthOf wsX5_fail := goodIn_r _ [15, 1, 16, 17, 18, 19, 20, 21, 22, 23, 24, 25, 26, 27, 28, 29, 30, 31, 32] (by decide +kernel) (by decide +kernel)
set_option maxRecDepth 20000 in
theorem gX5_lengthOf_X5_fail : GoodIn wsX5_lengthOf (wsV RX5 89 RX5 yX5_fail wsX5_fail) := goodIn_app (goodIn_of _ (by decide +kernel)) ggX5_lengthOf_X5_fail
theorem dX5_lengthOf_0 : decode cX5_lengthOf 0 = .ok (.aload_n 0, 1) := by decide +kernel
theorem dX5_lengthOf_1 : decode cX5_lengthOf 1 = .ok (.iconst 0, 1) := by decide +kernel
theorem dX5_lengthOf_2 : decode cX5_lengthOf 2 = .ok (.putfield 29, 3) := by decide +kernel
theorem dX5_lengthOf_5 : decode cX5_lengthOf 5 = .ok (.aload_n 0, 1) := by decide +kernel
theorem dX5_lengthOf_6 : decode cX5_lengthOf 6 = .ok (.iload_n 1, 1) := by decide +kernel
theorem dX5_lengthOf_7 : decode cX5_lengthOf 7 = .ok (.invokevirtual 92, 3) := by decide +kernel
theorem dX5_lengthOf_10 : decode cX5_lengthOf 10 = .ok (.ifCond .eq 12, 3) := by decide +kernel
theorem dX5_lengthOf_13 : decode cX5_lengthOf 13 = .ok (.aload_n 0, 1) := by decide +kernel
theorem dX5_lengthOf_14 : decode cX5_lengthOf 14 = .ok (.getfield 13, 3) := by decide +kernel
theorem dX5_lengthOf_17 : decode cX5_lengthOf 17 = .ok (.iload_n 1, 1) := by decide +kernel
theorem dX5_lengthOf_18 : decode cX5_lengthOf 18 = .ok (.iaload, 1) := by decide +kernel
theorem dX5_lengthOf_19 : decode cX5_lengthOf 19 = .ok (.goto 8, 3) := by decide +kernel
theorem dX5_lengthOf_22 : decode cX5_lengthOf 22 = .ok (.aload_n 0, 1) := by decide +kernel
theorem dX5_lengthOf_23 : decode cX5_lengthOf 23 = .ok (.iconst 1, 1) := by decide +kernel
theorem dX5_lengthOf_24 : decode cX5_lengthOf 24 = .ok (.invokevirtual 89, 3) := by decide +kernel
theorem dX5_lengthOf_27 : decode cX5_lengthOf 27 = .ok (.ireturn, 1) := by decide +kernel
set_option maxRecDepth 20000 in
theorem ggX5_write_X5_isType : GoodIn wsX5_write wsX5_isType := goodIn_r _ [7, 8, 9, 6, 10] (by decide +kernel) (by decide +kernel)
set_option maxRecDepth 20000 in
theorem gX5_write_X5_isType : GoodIn wsX5_write (va_wsS RX5 85 yX5_isType wsX5_isType) := goodIn_app (goodIn_of _ (by decide +kernel)) ggX5_write_X5_isType
set_option maxRecDepth 20000 in
theorem ggX5_write_X5_fail : GoodIn wsX5_write wsX5_fail := goodIn_r _ [14, 1, 15, 16, 17, 18, 19, 20, 21, 22, 23, 24, 25, 26, 27, 28, 29, 30, 31] (by decide +kernel) (by decide +kernel)
set_option maxRecDepth 20000 in
theorem gX5_write_X5_fail : GoodIn wsX5_write (wsV RX5 89 RX5 yX5_fail wsX5_fail) := goodIn_app (goodIn_of _ (by decide +kernel)) ggX5_write_X5_fail
theorem dX5_write_0 : decode cX5_write 0 = .ok (.aload_n 0, 1) := by decide +kernel
theorem dX5_write_1 : decode cX5_write 1 = .ok (.iconst 0, 1) := by decide +kernel
theorem dX5_write_2 : decode cX5_write 2 = .ok (.putfield 29, 3) := by decide +kernel
theorem dX5_write_5 : decode cX5_write 5 = .ok (.iload_n 1, 1) := by decide +kernel
theorem dX5_write_6 : decode cX5_write 6 = .ok (.invokestatic 85, 3) := by decide +kernel
theorem dX5_write_9 : decode cX5_write 9 = .ok (.ifCond .ne 9, 3) := by decide +kernel
theorem dX5_write_12 : decode cX5_write 12 = .ok (.aload_n 0, 1) := by decide +kernel
theorem dX5_write_13 : decode cX5_write 13 = .ok (.iconst 1, 1) := by decide +kernel
theorem dX5_write_14 : decode cX5_write 14 = .ok (.invokevirtual 89, 3) := by decide +kernel
theorem dX5_write_17 : decode cX5_write 17 = .ok (.ireturn, 1) := by decide +kernel
theorem dX5_write_18 : decode cX5_write 18 = .ok (.aload_n 0, 1) := by decide +kernel
theorem dX5_write_19 : decode cX5_write 19 = .ok (.getfield 39, 3) := by decide +kernel
theorem dX5_write_22 : decode cX5_write 22 = .ok (.bipush 24, 2) := by decide +kernel
theorem dX5_write_24 : decode cX5_write 24 = .ok (.if_icmp .ne 9, 3) := by decide +kernel
theorem dX5_write_27 : decode cX5_write 27 = .ok (.aload_n 0, 1) := by decide +kernel
theorem dX5_write_28 : decode cX5_write 28 = .ok (.iconst 2, 1) := by decide +kernel
theorem dX5_write_29 : decode cX5_write 29 = .ok (.invokevirtual 89, 3) := by decide +kernel
theorem dX5_write_32 : decode cX5_write 32 = .ok (.ireturn, 1) := by decide +kernel
theorem dX5_write_33 : decode cX5_write 33 = .ok (.aload_n 0, 1) := by decide +kernel
theorem dX5_write_34 : decode cX5_write 34 = .ok (.getfield 16, 3) := by decide +kernel
theorem dX5_write_37 : decode cX5_write 37 = .ok (.aload_n 0, 1) := by decide +kernel
theorem dX5_write_38 : decode cX5_write 38 = .ok (.getfield 39, 3) := by decide +kernel
theorem dX5_write_41 : decode cX5_write 41 = .ok (.iload_n 1, 1) := by decide +kernel
theorem dX5_write_42 : decode cX5_write 42 = .ok (.iastore, 1) := by decide +kernel
theorem dX5_write_43 : decode cX5_write 43 = .ok (.aload_n 0, 1) := by decide +kernel
theorem dX5_write_44 : decode cX5_write 44 = .ok (.dup, 1) := by decide +kernel
theorem dX5_write_45 : decode cX5_write 45 = .ok (.getfield 39, 3) := by decide +kernel
theorem dX5_write_48 : decode cX5_write 48 = .ok (.iconst 1, 1) := by decide +kernel
theorem dX5_write_49 : decode cX5_write 49 = .ok (.iadd, 1) := by decide +kernel
theorem dX5_write_50 : decode cX5_write 50 = .ok (.putfield 39, 3) := by decide +kernel
theorem dX5_write_53 : decode cX5_write 53 = .ok (.aload_n 0, 1) := by decide +kernel
theorem dX5_write_54 : decode cX5_write 54 = .ok (.getfield 39, 3) := by decide +kernel
theorem dX5_write_57 : decode cX5_write 57 = .ok (.ireturn, 1) := by decide +kernel
set_option maxRecDepth 20000 in
theorem ggX5_strike_X5_fail : GoodIn wsX5_strike wsX5_fail := goodIn_r _ [8, 1, 9, 10, 11, 12, 13, 14, 15, 16, 17, 18, 19, 20, 21, 22, 23, 24, 25] (by decide +kernel) (by decide +kernel)
set_option maxRecDepth 20000 in
theorem gX5_strike_X5_fail : GoodIn wsX5_strike (wsV RX5 89 RX5 yX5_fail wsX5_fail) := goodIn_app (goodIn_of _ (by decide +kernel)) ggX5_strike_X5_fail
theorem dX5_strike_0 : decode cX5_strike 0 = .ok (.aload_n 0, 1) := by decide +kernel
theorem dX5_strike_1 : decode cX5_strike 1 = .ok (.iconst 0, 1) := by decide +kernel
theorem dX5_strike_2 : decode cX5_strike 2 = .ok (.putfield 29, 3) := by decide +kernel
theorem dX5_strike_5 : decode cX5_strike 5 = .ok (.aload_n 0, 1) := by decide +kernel
theorem dX5_strike_6 : decode cX5_strike 6 = .ok (.getfield 39, 3) := by decide +kernel
theorem dX5_strike_9 : decode cX5_strike 9 = .ok (.ifCond .ne 9, 3) := by decide +kernel
theorem dX5_strike_12 : decode cX5_strike 12 = .ok (.aload_n 0, 1) := by decide +kernel
theorem dX5_strike_13 : decode cX5_strike 13 = .ok (.iconst 1, 1) := by decide +kernel
theorem dX5_strike_14 : decode cX5_strike 14 = .ok (.invokevirtual 89, 3) := by decide +kernel
theorem dX5_strike_17 : decode cX5_strike 17 = .ok (.ireturn, 1) := by decide +kernel
theorem dX5_strike_18 : decode cX5_strike 18 = .ok (.aload_n 0, 1) := by decide +kernel
theorem dX5_strike_19 : decode cX5_strike 19 = .ok (.dup, 1) := by decide +kernel
theorem dX5_strike_20 : decode cX5_strike 20 = .ok (.getfield 39, 3) := by decide +kernel
theorem dX5_strike_23 : decode cX5_strike 23 = .ok (.iconst 1, 1) := by decide +kernel
theorem dX5_strike_24 : decode cX5_strike 24 = .ok (.isub, 1) := by decide +kernel
theorem dX5_strike_25 : decode cX5_strike 25 = .ok (.putfield 39, 3) := by decide +kernel
theorem dX5_strike_28 : decode cX5_strike 28 = .ok (.aload_n 0, 1) := by decide +kernel
theorem dX5_strike_29 : decode cX5_strike 29 = .ok (.getfield 16, 3) := by decide +kernel
theorem dX5_strike_32 : decode cX5_strike 32 = .ok (.aload_n 0, 1) := by decide +kernel
theorem dX5_strike_33 : decode cX5_strike 33 = .ok (.getfield 39, 3) := by decide +kernel
theorem dX5_strike_36 : decode cX5_strike 36 = .ok (.iaload, 1) := by decide +kernel
theorem dX5_strike_37 : decode cX5_strike 37 = .ok (.ireturn, 1) := by decide +kernel
set_option maxRecDepth 20000 in
theorem ggX5_clear_X5_told : GoodIn wsX5_clear wsX5_told := goodIn_r _ [6, 7, 8, 9, 10, 11, 12, 13, 14, 15, 16, 17, 18, 19, 20, 21, 22, 23, 24] (by decide +kernel) (by decide +kernel)
set_option maxRecDepth 20000 in
theorem gX5_clear_X5_told : GoodIn wsX5_clear (wsV RX5 95 RX5 yX5_told wsX5_told) := goodIn_app (goodIn_of _ (by decide +kernel)) ggX5_clear_X5_told
theorem dX5_clear_0 : decode cX5_clear 0 = .ok (.aload_n 0, 1) := by decide +kernel
theorem dX5_clear_1 : decode cX5_clear 1 = .ok (.getfield 39, 3) := by decide +kernel
theorem dX5_clear_4 : decode cX5_clear 4 = .ok (.istore_n 1, 1) := by decide +kernel
theorem dX5_clear_5 : decode cX5_clear 5 = .ok (.aload_n 0, 1) := by decide +kernel
theorem dX5_clear_6 : decode cX5_clear 6 = .ok (.iconst 0, 1) := by decide +kernel
theorem dX5_clear_7 : decode cX5_clear 7 = .ok (.putfield 39, 3) := by decide +kernel
theorem dX5_clear_10 : decode cX5_clear 10 = .ok (.aload_n 0, 1) := by decide +kernel
theorem dX5_clear_11 : decode cX5_clear 11 = .ok (.iload_n 1, 1) := by decide +kernel
theorem dX5_clear_12 : decode cX5_clear 12 = .ok (.invokevirtual 95, 3) := by decide +kernel
theorem dX5_clear_15 : decode cX5_clear 15 = .ok (.ireturn, 1) := by decide +kernel
set_option maxRecDepth 20000 in
theorem ggX5_words_X5_told : GoodIn wsX5_words wsX5_told := goodIn_r _ [6, 7, 8, 9, 10, 11, 12, 13, 14, 15, 16, 17, 18, 19, 20, 21, 22, 23, 24] (by decide +kernel) (by decide +kernel)
set_option maxRecDepth 20000 in
theorem gX5_words_X5_told : GoodIn wsX5_words (wsV RX5 95 RX5 yX5_told wsX5_told) := goodIn_app (goodIn_of _ (by decide +kernel)) ggX5_words_X5_told
theorem dX5_words_0 : decode cX5_words 0 = .ok (.aload_n 0, 1) := by decide +kernel
theorem dX5_words_1 : decode cX5_words 1 = .ok (.aload_n 0, 1) := by decide +kernel
theorem dX5_words_2 : decode cX5_words 2 = .ok (.getfield 39, 3) := by decide +kernel
theorem dX5_words_5 : decode cX5_words 5 = .ok (.invokevirtual 95, 3) := by decide +kernel
theorem dX5_words_8 : decode cX5_words 8 = .ok (.ireturn, 1) := by decide +kernel
set_option maxRecDepth 20000 in
theorem ggX5_typeOf_X5_isIn : GoodIn wsX5_typeOf wsX5_isIn := goodIn_r _ [7] (by decide +kernel) (by decide +kernel)
set_option maxRecDepth 20000 in
theorem gX5_typeOf_X5_isIn : GoodIn wsX5_typeOf (va_wsS RX5 32 yX5_isIn wsX5_isIn) := goodIn_app (goodIn_of _ (by decide +kernel)) ggX5_typeOf_X5_isIn
set_option maxRecDepth 20000 in
theorem ggX5_typeOf_X5_fail : GoodIn wsX5_typeOf wsX5_fail := goodIn_r _ [11, 1, 12, 13, 14, 15, 16, 17, 18, 19, 20, 21, 22, 23, 24, 25, 26, 27, 28] (by decide +kernel) (by decide +kernel)
set_option maxRecDepth 20000 in
theorem gX5_typeOf_X5_fail : GoodIn wsX5_typeOf (wsV RX5 89 RX5 yX5_fail wsX5_fail) := goodIn_app (goodIn_of _ (by decide +kernel)) ggX5_typeOf_X5_fail
theorem dX5_typeOf_0 : decode cX5_typeOf 0 = .ok (.aload_n 0, 1) := by decide +kernel
theorem dX5_typeOf_1 : decode cX5_typeOf 1 = .ok (.iconst 0, 1) := by decide +kernel
theorem dX5_typeOf_2 : decode cX5_typeOf 2 = .ok (.putfield 29, 3) := by decide +kernel
theorem dX5_typeOf_5 : decode cX5_typeOf 5 = .ok (.iload_n 1, 1) := by decide +kernel
theorem dX5_typeOf_6 : decode cX5_typeOf 6 = .ok (.iconst 0, 1) := by decide +kernel
theorem dX5_typeOf_7 : decode cX5_typeOf 7 = .ok (.aload_n 0, 1) := by decide +kernel
theorem dX5_typeOf_8 : decode cX5_typeOf 8 = .ok (.getfield 39, 3) := by decide +kernel
theorem dX5_typeOf_11 : decode cX5_typeOf 11 = .ok (.iconst 1, 1) := by decide +kernel
theorem dX5_typeOf_12 : decode cX5_typeOf 12 = .ok (.isub, 1) := by decide +kernel
theorem dX5_typeOf_13 : decode cX5_typeOf 13 = .ok (.invokestatic 32, 3) := by decide +kernel
theorem dX5_typeOf_16 : decode cX5_typeOf 16 = .ok (.ifCond .eq 12, 3) := by decide +kernel
theorem dX5_typeOf_19 : decode cX5_typeOf 19 = .ok (.aload_n 0, 1) := by decide +kernel
theorem dX5_typeOf_20 : decode cX5_typeOf 20 = .ok (.getfield 16, 3) := by decide +kernel
theorem dX5_typeOf_23 : decode cX5_typeOf 23 = .ok (.iload_n 1, 1) := by decide +kernel
theorem dX5_typeOf_24 : decode cX5_typeOf 24 = .ok (.iaload, 1) := by decide +kernel
theorem dX5_typeOf_25 : decode cX5_typeOf 25 = .ok (.goto 8, 3) := by decide +kernel
theorem dX5_typeOf_28 : decode cX5_typeOf 28 = .ok (.aload_n 0, 1) := by decide +kernel
theorem dX5_typeOf_29 : decode cX5_typeOf 29 = .ok (.iconst 1, 1) := by decide +kernel
theorem dX5_typeOf_30 : decode cX5_typeOf 30 = .ok (.invokevirtual 89, 3) := by decide +kernel
theorem dX5_typeOf_33 : decode cX5_typeOf 33 = .ok (.ireturn, 1) := by decide +kernel
set_option maxRecDepth 20000 in
theorem ggX5_groups_X5_all : GoodIn wsX5_groups wsX5_all := goodIn_r _ [5, 6, 7, 8, 9, 10, 4, 11, 12, 13, 14, 15, 16, 17, 18, 19, 20, 26, 27, 28, 29, 30, 31, 32, 33, 34, 35, 36, 37, 38, 39, 40, 41, 42] (by decide +kernel) (by decide +kernel)
set_option maxRecDepth 20000 in
theorem gX5_groups_X5_all : GoodIn wsX5_groups (wsV RX5 98 RX5 yX5_all wsX5_all) := goodIn_app (goodIn_of _ (by decide +kernel)) ggX5_groups_X5_all
set_option maxRecDepth 20000 in
theorem ggX5_groups_X5_told : GoodIn wsX5_groups wsX5_told := goodIn_r _ [24, 25, 26, 27, 28, 29, 30, 31, 32, 33, 34, 35, 36, 37, 38, 39, 40, 41, 42] (by decide +kernel) (by decide +kernel)
set_option maxRecDepth 20000 in
theorem gX5_groups_X5_told : GoodIn wsX5_groups (wsV RX5 95 RX5 yX5_told wsX5_told) := goodIn_app (goodIn_of _ (by decide +kernel)) ggX5_groups_X5_told
theorem dX5_groups_0 : decode cX5_groups 0 = .ok (.aload_n 0, 1) := by decide +kernel
theorem dX5_groups_1 : decode cX5_groups 1 = .ok (.aload_n 0, 1) := by decide +kernel
theorem dX5_groups_2 : decode cX5_groups 2 = .ok (.invokevirtual 98, 3) := by decide +kernel
theorem dX5_groups_5 : decode cX5_groups 5 = .ok (.invokevirtual 95, 3) := by decide +kernel
theorem dX5_groups_8 : decode cX5_groups 8 = .ok (.ireturn, 1) := by decide +kernel
set_option maxRecDepth 20000 in
theorem ggX5_codeOf_X5_all : GoodIn wsX5_codeOf wsX5_all := goodIn_r _ [7, 8, 9, 10, 11, 12, 6, 13, 14, 2, 15, 16, 17, 18, 19, 20, 21, 37, 38, 39, 40, 41, 42, 43, 44, 45, 46, 47, 48, 49, 50, 51, 52, 53] (by decide +kernel) (by decide +kernel)
set_option maxRecDepth 20000 in
theorem gX5_codeOf_X5_all : GoodIn wsX5_codeOf (wsV RX5 98 RX5 yX5_all wsX5_all) := goodIn_app (goodIn_of _ (by decide +kernel)) ggX5_codeOf_X5_all
set_option maxRecDepth 20000 in
theorem ggX5_codeOf_X5_isIn : GoodIn wsX5_codeOf wsX5_isIn := goodIn_r _ [24] (by decide +kernel) (by decide +kernel)
set_option maxRecDepth 20000 in
theorem gX5_codeOf_X5_isIn : GoodIn wsX5_codeOf (va_wsS RX5 32 yX5_isIn wsX5_isIn) := goodIn_app (goodIn_of _ (by decide +kernel)) ggX5_codeOf_X5_isIn
set_option maxRecDepth 20000 in
theorem ggX5_codeOf_X5_start : GoodIn wsX5_codeOf wsX5_start := goodIn_r _ [28, 29, 30, 31, 6, 32, 2, 15, 37, 38, 39, 40, 41, 42, 43, 44, 45, 46, 47, 48, 49, 50, 51, 52, 53] (by decide +kernel) (by decide +kernel)
set_option maxRecDepth 20000 in
theorem gX5_codeOf_X5_start : GoodIn wsX5_codeOf (wsV RX5 101 RX5 yX5_start wsX5_start) := goodIn_app (goodIn_of _ (by decide +kernel)) ggX5_codeOf_X5_start
set_option maxRecDepth 20000 in
theorem ggX5_codeOf_X5_fail : GoodIn wsX5_codeOf wsX5_fail := goodIn_r _ [36, 1, 37, 38, 39, 40, 41, 42, 43, 44, 45, 46, 47, 48, 49, 50, 51, 52, 53] (by decide +kernel) (by decide +kernel)
set_option maxRecDepth 20000 in
theorem gX5_codeOf_X5_fail : GoodIn wsX5_codeOf (wsV RX5 89 RX5 yX5_fail wsX5_fail) := goodIn_app (goodIn_of _ (by decide +kernel)) ggX5_codeOf_X5_fail
theorem dX5_codeOf_0 : decode cX5_codeOf 0 = .ok (.aload_n 0, 1) := by decide +kernel
theorem dX5_codeOf_1 : decode cX5_codeOf 1 = .ok (.iconst 0, 1) := by decide +kernel
theorem dX5_codeOf_2 : decode cX5_codeOf 2 = .ok (.putfield 29, 3) := by decide +kernel
theorem dX5_codeOf_5 : decode cX5_codeOf 5 = .ok (.iload_n 1, 1) := by decide +kernel
theorem dX5_codeOf_6 : decode cX5_codeOf 6 = .ok (.iconst 0, 1) := by decide +kernel
theorem dX5_codeOf_7 : decode cX5_codeOf 7 = .ok (.aload_n 0, 1) := by decide +kernel
theorem dX5_codeOf_8 : decode cX5_codeOf 8 = .ok (.invokevirtual 98, 3) := by decide +kernel
theorem dX5_codeOf_11 : decode cX5_codeOf 11 = .ok (.iconst 1, 1) := by decide +kernel
theorem dX5_codeOf_12 : decode cX5_codeOf 12 = .ok (.isub, 1) := by decide +kernel
theorem dX5_codeOf_13 : decode cX5_codeOf 13 = .ok (.invokestatic 32, 3) := by decide +kernel
theorem dX5_codeOf_16 : decode cX5_codeOf 16 = .ok (.ifCond .eq 16, 3) := by decide +kernel
theorem dX5_codeOf_19 : decode cX5_codeOf 19 = .ok (.aload_n 0, 1) := by decide +kernel
theorem dX5_codeOf_20 : decode cX5_codeOf 20 = .ok (.getfield 26, 3) := by decide +kernel
theorem dX5_codeOf_23 : decode cX5_codeOf 23 = .ok (.aload_n 0, 1) := by decide +kernel
theorem dX5_codeOf_24 : decode cX5_codeOf 24 = .ok (.iload_n 1, 1) := by decide +kernel
theorem dX5_codeOf_25 : decode cX5_codeOf 25 = .ok (.invokevirtual 101, 3) := by decide +kernel
theorem dX5_codeOf_28 : decode cX5_codeOf 28 = .ok (.iaload, 1) := by decide +kernel
theorem dX5_codeOf_29 : decode cX5_codeOf 29 = .ok (.goto 8, 3) := by decide +kernel
theorem dX5_codeOf_32 : decode cX5_codeOf 32 = .ok (.aload_n 0, 1) := by decide +kernel
theorem dX5_codeOf_33 : decode cX5_codeOf 33 = .ok (.iconst 1, 1) := by decide +kernel
theorem dX5_codeOf_34 : decode cX5_codeOf 34 = .ok (.invokevirtual 89, 3) := by decide +kernel
theorem dX5_codeOf_37 : decode cX5_codeOf 37 = .ok (.ireturn, 1) := by decide +kernel
set_option maxRecDepth 20000 in
theorem ggX5_startOf_X5_all : GoodIn wsX5_startOf wsX5_all := goodIn_r _ [6, 7, 8, 9, 10, 11, 5, 12, 13, 14, 15, 16, 17, 18, 19, 20, 21, 37, 38, 39, 40, 41, 42, 43, 44, 45, 46, 47, 48, 49, 50, 51, 52, 53] (by decide +kernel) (by decide +kernel)
set_option maxRecDepth 20000 in
theorem gX5_startOf_X5_all : GoodIn wsX5_startOf (wsV RX5 98 RX5 yX5_all wsX5_all) := goodIn_app (goodIn_of _ (by decide +kernel)) ggX5_startOf_X5_all
set_option maxRecDepth 20000 in
theorem ggX5_startOf_X5_isIn : GoodIn wsX5_startOf wsX5_isIn := goodIn_r _ [24] (by decide +kernel) (by decide +kernel)
set_option maxRecDepth 20000 in
theorem gX5_startOf_X5_isIn : GoodIn wsX5_startOf (va_wsS RX5 32 yX5_isIn wsX5_isIn) := goodIn_app (goodIn_of _ (by decide +kernel)) ggX5_startOf_X5_isIn
set_option maxRecDepth 20000 in
theorem ggX5_startOf_X5_start : GoodIn wsX5_startOf wsX5_start := goodIn_r _ [28, 29, 30, 31, 5, 32, 14, 15, 37, 38, 39, 40, 41, 42, 43, 44, 45, 46, 47, 48, 49, 50, 51, 52, 53] (by decide +kernel) (by decide +kernel)
set_option maxRecDepth 20000 in
theorem gX5_startOf_X5_start : GoodIn wsX5_startOf (wsV RX5 101 RX5 yX5_start wsX5_start) := goodIn_app (goodIn_of _ (by decide +kernel)) ggX5_startOf_X5_start
set_option maxRecDepth 20000 in
theorem ggX5_startOf_X5_fail : GoodIn wsX5_startOf wsX5_fail := goodIn_r _ [36, 1, 37, 38, 39, 40, 41, 42, 43, 44, 45, 46, 47, 48, 49, 50, 51, 52, 53] (by decide +kernel) (by decide +kernel)
set_option maxRecDepth 20000 in
theorem gX5_startOf_X5_fail : GoodIn wsX5_startOf (wsV RX5 89 RX5 yX5_fail wsX5_fail) := goodIn_app (goodIn_of _ (by decide +kernel)) ggX5_startOf_X5_fail
theorem dX5_startOf_0 : decode cX5_startOf 0 = .ok (.aload_n 0, 1) := by decide +kernel
theorem dX5_startOf_1 : decode cX5_startOf 1 = .ok (.iconst 0, 1) := by decide +kernel
theorem dX5_startOf_2 : decode cX5_startOf 2 = .ok (.putfield 29, 3) := by decide +kernel
theorem dX5_startOf_5 : decode cX5_startOf 5 = .ok (.iload_n 1, 1) := by decide +kernel
theorem dX5_startOf_6 : decode cX5_startOf 6 = .ok (.iconst 0, 1) := by decide +kernel
theorem dX5_startOf_7 : decode cX5_startOf 7 = .ok (.aload_n 0, 1) := by decide +kernel
theorem dX5_startOf_8 : decode cX5_startOf 8 = .ok (.invokevirtual 98, 3) := by decide +kernel
theorem dX5_startOf_11 : decode cX5_startOf 11 = .ok (.iconst 1, 1) := by decide +kernel
theorem dX5_startOf_12 : decode cX5_startOf 12 = .ok (.isub, 1) := by decide +kernel
theorem dX5_startOf_13 : decode cX5_startOf 13 = .ok (.invokestatic 32, 3) := by decide +kernel
theorem dX5_startOf_16 : decode cX5_startOf 16 = .ok (.ifCond .eq 11, 3) := by decide +kernel
theorem dX5_startOf_19 : decode cX5_startOf 19 = .ok (.aload_n 0, 1) := by decide +kernel
theorem dX5_startOf_20 : decode cX5_startOf 20 = .ok (.iload_n 1, 1) := by decide +kernel
theorem dX5_startOf_21 : decode cX5_startOf 21 = .ok (.invokevirtual 101, 3) := by decide +kernel
theorem dX5_startOf_24 : decode cX5_startOf 24 = .ok (.goto 8, 3) := by decide +kernel
theorem dX5_startOf_27 : decode cX5_startOf 27 = .ok (.aload_n 0, 1) := by decide +kernel
theorem dX5_startOf_28 : decode cX5_startOf 28 = .ok (.iconst 1, 1) := by decide +kernel
theorem dX5_startOf_29 : decode cX5_startOf 29 = .ok (.invokevirtual 89, 3) := by decide +kernel
theorem dX5_startOf_32 : decode cX5_startOf 32 = .ok (.ireturn, 1) := by decide +kernel
set_option maxRecDepth 20000 in
theorem ggX5_uses_X5_part : GoodIn wsX5_uses wsX5_part := goodIn_r _ [8, 9, 2, 3, 10, 11, 12, 13, 14, 7, 15, 16, 21, 22, 23, 24, 25, 26, 27, 28, 29, 30, 31, 32, 33, 34, 35, 36, 37] (by decide +kernel) (by decide +kernel)
set_option maxRecDepth 20000 in
theorem gX5_uses_X5_part : GoodIn wsX5_uses (wsV RX5 46 RX5 yX5_part wsX5_part) := goodIn_app (goodIn_of _ (by decide +kernel)) ggX5_uses_X5_part
set_option maxRecDepth 20000 in
theorem ggX5_uses_X5_next : GoodIn wsX5_uses wsX5_next := goodIn_r _ [20, 3, 10, 21, 22, 23, 24, 25, 26, 27, 28, 29, 30, 31, 32, 33, 34, 35, 36, 37] (by decide +kernel) (by decide +kernel)
set_option maxRecDepth 20000 in
theorem gX5_uses_X5_next : GoodIn wsX5_uses (wsV RX5 50 RX5 yX5_next wsX5_next) := goodIn_app (goodIn_of _ (by decide +kernel)) ggX5_uses_X5_next
theorem dX5_uses_0 : decode cX5_uses 0 = .ok (.aload_n 0, 1) := by decide +kernel
theorem dX5_uses_1 : decode cX5_uses 1 = .ok (.aload_n 0, 1) := by decide +kernel
theorem dX5_uses_2 : decode cX5_uses 2 = .ok (.getfield 36, 3) := by decide +kernel
theorem dX5_uses_5 : decode cX5_uses 5 = .ok (.iconst (-1), 1) := by decide +kernel
theorem dX5_uses_6 : decode cX5_uses 6 = .ok (.invokevirtual 46, 3) := by decide +kernel
theorem dX5_uses_9 : decode cX5_uses 9 = .ok (.iconst 0, 1) := by decide +kernel
theorem dX5_uses_10 : decode cX5_uses 10 = .ok (.istore_n 2, 1) := by decide +kernel
theorem dX5_uses_11 : decode cX5_uses 11 = .ok (.iconst 0, 1) := by decide +kernel
theorem dX5_uses_12 : decode cX5_uses 12 = .ok (.istore_n 3, 1) := by decide +kernel
theorem dX5_uses_13 : decode cX5_uses 13 = .ok (.iload_n 3, 1) := by decide +kernel
theorem dX5_uses_14 : decode cX5_uses 14 = .ok (.aload_n 0, 1) := by decide +kernel
theorem dX5_uses_15 : decode cX5_uses 15 = .ok (.getfield 39, 3) := by decide +kernel
theorem dX5_uses_18 : decode cX5_uses 18 = .ok (.if_icmp .ge 30, 3) := by decide +kernel
theorem dX5_uses_21 : decode cX5_uses 21 = .ok (.iload_n 2, 1) := by decide +kernel
theorem dX5_uses_22 : decode cX5_uses 22 = .ok (.aload_n 0, 1) := by decide +kernel
theorem dX5_uses_23 : decode cX5_uses 23 = .ok (.getfield 26, 3) := by decide +kernel
theorem dX5_uses_26 : decode cX5_uses 26 = .ok (.iload_n 3, 1) := by decide +kernel
theorem dX5_uses_27 : decode cX5_uses 27 = .ok (.iaload, 1) := by decide +kernel
theorem dX5_uses_28 : decode cX5_uses 28 = .ok (.iload_n 1, 1) := by decide +kernel
theorem dX5_uses_29 : decode cX5_uses 29 = .ok (.if_icmp .ne 7, 3) := by decide +kernel
theorem dX5_uses_32 : decode cX5_uses 32 = .ok (.iconst 1, 1) := by decide +kernel
theorem dX5_uses_33 : decode cX5_uses 33 = .ok (.goto 4, 3) := by decide +kernel
theorem dX5_uses_36 : decode cX5_uses 36 = .ok (.iconst 0, 1) := by decide +kernel
theorem dX5_uses_37 : decode cX5_uses 37 = .ok (.iadd, 1) := by decide +kernel
theorem dX5_uses_38 : decode cX5_uses 38 = .ok (.istore_n 2, 1) := by decide +kernel
theorem dX5_uses_39 : decode cX5_uses 39 = .ok (.aload_n 0, 1) := by decide +kernel
theorem dX5_uses_40 : decode cX5_uses 40 = .ok (.iload_n 3, 1) := by decide +kernel
theorem dX5_uses_41 : decode cX5_uses 41 = .ok (.invokevirtual 50, 3) := by decide +kernel
theorem dX5_uses_44 : decode cX5_uses 44 = .ok (.istore_n 3, 1) := by decide +kernel
theorem dX5_uses_45 : decode cX5_uses 45 = .ok (.goto (-32), 3) := by decide +kernel
theorem dX5_uses_48 : decode cX5_uses 48 = .ok (.iload_n 2, 1) := by decide +kernel
theorem dX5_uses_49 : decode cX5_uses 49 = .ok (.ireturn, 1) := by decide +kernel
set_option maxRecDepth 20000 in
theorem ggX5_usesOf_X5_isCode : GoodIn wsX5_usesOf wsX5_isCode := goodIn_r _ [6, 7, 8, 9, 5, 10, 37, 38, 39, 40, 41, 42, 43, 44, 45, 46, 47, 48, 49, 50, 51, 52, 53] (by decide +kernel) (by decide +kernel)
set_option maxRecDepth 20000 in
theorem gX5_usesOf_X5_isCode : GoodIn wsX5_usesOf (wsV RX5 92 RX5 yX5_isCode wsX5_isCode) := goodIn_app (goodIn_of _ (by decide +kernel)) ggX5_usesOf_X5_isCode
set_option maxRecDepth 20000 in
theorem ggX5_usesOf_X5_uses : GoodIn wsX5_usesOf wsX5_uses := goodIn_r _ [14, 7, 15, 16, 17, 18, 19, 5, 20, 21, 22, 23, 24, 25, 26, 27, 28, 29, 30, 31, 32, 37, 38, 39, 40, 41, 42, 43, 44, 45, 46, 47, 48, 49, 50, 51, 52, 53] (by decide +kernel) (by decide +kernel)
set_option maxRecDepth 20000 in
theorem gX5_usesOf_X5_uses : GoodIn wsX5_usesOf (wsV RX5 104 RX5 yX5_uses wsX5_uses) := goodIn_app (goodIn_of _ (by decide +kernel)) ggX5_usesOf_X5_uses
set_option maxRecDepth 20000 in
theorem ggX5_usesOf_X5_fail : GoodIn wsX5_usesOf wsX5_fail := goodIn_r _ [36, 1, 37, 38, 39, 40, 41, 42, 43, 44, 45, 46, 47, 48, 49, 50, 51, 52, 53] (by decide +kernel) (by decide +kernel)
set_option maxRecDepth 20000 in
theorem gX5_usesOf_X5_fail : GoodIn wsX5_usesOf (wsV RX5 89 RX5 yX5_fail wsX5_fail) := goodIn_app (goodIn_of _ (by decide +kernel)) ggX5_usesOf_X5_fail
theorem dX5_usesOf_0 : decode cX5_usesOf 0 = .ok (.aload_n 0, 1) := by decide +kernel
theorem dX5_usesOf_1 : decode cX5_usesOf 1 = .ok (.iconst 0, 1) := by decide +kernel
theorem dX5_usesOf_2 : decode cX5_usesOf 2 = .ok (.putfield 29, 3) := by decide +kernel
theorem dX5_usesOf_5 : decode cX5_usesOf 5 = .ok (.aload_n 0, 1) := by decide +kernel
theorem dX5_usesOf_6 : decode cX5_usesOf 6 = .ok (.iload_n 1, 1) := by decide +kernel
theorem dX5_usesOf_7 : decode cX5_usesOf 7 = .ok (.invokevirtual 92, 3) := by decide +kernel
theorem dX5_usesOf_10 : decode cX5_usesOf 10 = .ok (.ifCond .eq 11, 3) := by decide +kernel
theorem dX5_usesOf_13 : decode cX5_usesOf 13 = .ok (.aload_n 0, 1) := by decide +kernel
theorem dX5_usesOf_14 : decode cX5_usesOf 14 = .ok (.iload_n 1, 1) := by decide +kernel
theorem dX5_usesOf_15 : decode cX5_usesOf 15 = .ok (.invokevirtual 104, 3) := by decide +kernel
theorem dX5_usesOf_18 : decode cX5_usesOf 18 = .ok (.goto 8, 3) := by decide +kernel
theorem dX5_usesOf_21 : decode cX5_usesOf 21 = .ok (.aload_n 0, 1) := by decide +kernel
theorem dX5_usesOf_22 : decode cX5_usesOf 22 = .ok (.iconst 1, 1) := by decide +kernel
theorem dX5_usesOf_23 : decode cX5_usesOf 23 = .ok (.invokevirtual 89, 3) := by decide +kernel
theorem dX5_usesOf_26 : decode cX5_usesOf 26 = .ok (.ireturn, 1) := by decide +kernel
set_option maxRecDepth 20000 in
theorem ggX5_counted_X5_count : GoodIn wsX5_counted wsX5_count := goodIn_r _ [5, 6, 7, 8, 9, 10, 11, 12, 4, 13, 14, 15, 16, 17, 18, 19, 20, 21, 22, 23, 24, 30, 31, 32, 33, 34, 35, 36, 37, 38, 39, 40, 41, 42, 43, 44, 45, 46] (by decide +kernel) (by decide +kernel)
set_option maxRecDepth 20000 in
theorem gX5_counted_X5_count : GoodIn wsX5_counted (wsV RX5 59 RX5 yX5_count wsX5_count) := goodIn_app (goodIn_of _ (by decide +kernel)) ggX5_counted_X5_count
set_option maxRecDepth 20000 in
theorem ggX5_counted_X5_told : GoodIn wsX5_counted wsX5_told := goodIn_r _ [28, 29, 30, 31, 32, 33, 34, 35, 36, 37, 38, 39, 40, 41, 42, 43, 44, 45, 46] (by decide +kernel) (by decide +kernel)
set_option maxRecDepth 20000 in
theorem gX5_counted_X5_told : GoodIn wsX5_counted (wsV RX5 95 RX5 yX5_told wsX5_told) := goodIn_app (goodIn_of _ (by decide +kernel)) ggX5_counted_X5_told
theorem dX5_counted_0 : decode cX5_counted 0 = .ok (.aload_n 0, 1) := by decide +kernel
theorem dX5_counted_1 : decode cX5_counted 1 = .ok (.aload_n 0, 1) := by decide +kernel
theorem dX5_counted_2 : decode cX5_counted 2 = .ok (.invokevirtual 59, 3) := by decide +kernel
theorem dX5_counted_5 : decode cX5_counted 5 = .ok (.invokevirtual 95, 3) := by decide +kernel
theorem dX5_counted_8 : decode cX5_counted 8 = .ok (.ireturn, 1) := by decide +kernel
set_option maxRecDepth 20000 in
theorem ggX5_cost_X5_priceNow : GoodIn wsX5_cost wsX5_priceNow := goodIn_r _ [5, 6, 7, 8, 4, 9, 10, 11, 12, 13, 14, 15, 16, 17, 18, 19, 20, 21, 22, 23, 24, 25, 26, 27, 28, 29, 30, 31, 32, 33, 34, 35, 36, 42, 43, 44, 45, 46, 47, 48, 49, 50, 51, 52, 53, 54, 55, 56, 57, 58] (by decide +kernel) (by decide +kernel)
set_option maxRecDepth 20000 in
theorem gX5_cost_X5_priceNow : GoodIn wsX5_cost (wsV RX5 107 RX5 yX5_priceNow wsX5_priceNow) := goodIn_app (goodIn_of _ (by decide +kernel)) ggX5_cost_X5_priceNow
set_option maxRecDepth 20000 in
theorem ggX5_cost_X5_told : GoodIn wsX5_cost wsX5_told := goodIn_r _ [40, 41, 42, 43, 44, 45, 46, 47, 48, 49, 50, 51, 52, 53, 54, 55, 56, 57, 58] (by decide +kernel) (by decide +kernel)
set_option maxRecDepth 20000 in
theorem gX5_cost_X5_told : GoodIn wsX5_cost (wsV RX5 95 RX5 yX5_told wsX5_told) := goodIn_app (goodIn_of _ (by decide +kernel)) ggX5_cost_X5_told
theorem dX5_cost_0 : decode cX5_cost 0 = .ok (.aload_n 0, 1) := by decide +kernel
theorem dX5_cost_1 : decode cX5_cost 1 = .ok (.aload_n 0, 1) := by decide +kernel
theorem dX5_cost_2 : decode cX5_cost 2 = .ok (.invokevirtual 107, 3) := by decide +kernel
theorem dX5_cost_5 : decode cX5_cost 5 = .ok (.invokevirtual 95, 3) := by decide +kernel
theorem dX5_cost_8 : decode cX5_cost 8 = .ok (.ireturn, 1) := by decide +kernel
set_option maxRecDepth 20000 in
theorem ggX5_saved_X5_priceOfWords : GoodIn wsX5_saved wsX5_priceOfWords := goodIn_r _ [5, 6, 7, 8, 9, 10, 4, 11, 12, 13, 14, 15, 46, 47, 48, 49, 50, 51, 52, 53, 54, 55, 56, 57, 58, 59, 60, 61, 62] (by decide +kernel) (by decide +kernel)
set_option maxRecDepth 20000 in
theorem gX5_saved_X5_priceOfWords : GoodIn wsX5_saved (wsV RX5 110 RX5 yX5_priceOfWords wsX5_priceOfWords) := goodIn_app (goodIn_of _ (by decide +kernel)) ggX5_saved_X5_priceOfWords
set_option maxRecDepth 20000 in
theorem ggX5_saved_X5_priceNow : GoodIn wsX5_saved wsX5_priceNow := goodIn_r _ [19, 20, 21, 22, 4, 23, 24, 6, 25, 7, 26, 27, 28, 29, 30, 31, 32, 33, 34, 35, 36, 37, 38, 39, 40, 8, 9, 10, 11, 12, 13, 14, 15, 46, 47, 48, 49, 50, 51, 52, 53, 54, 55, 56, 57, 58, 59, 60, 61, 62] (by decide +kernel) (by decide +kernel)
set_option maxRecDepth 20000 in
theorem gX5_saved_X5_priceNow : GoodIn wsX5_saved (wsV RX5 107 RX5 yX5_priceNow wsX5_priceNow) := goodIn_app (goodIn_of _ (by decide +kernel)) ggX5_saved_X5_priceNow
set_option maxRecDepth 20000 in
theorem ggX5_saved_X5_told : GoodIn wsX5_saved wsX5_told := goodIn_r _ [44, 45, 46, 47, 48, 49, 50, 51, 52, 53, 54, 55, 56, 57, 58, 59, 60, 61, 62] (by decide +kernel) (by decide +kernel)
set_option maxRecDepth 20000 in
theorem gX5_saved_X5_told : GoodIn wsX5_saved (wsV RX5 95 RX5 yX5_told wsX5_told) := goodIn_app (goodIn_of _ (by decide +kernel)) ggX5_saved_X5_told
theorem dX5_saved_0 : decode cX5_saved 0 = .ok (.aload_n 0, 1) := by decide +kernel
theorem dX5_saved_1 : decode cX5_saved 1 = .ok (.aload_n 0, 1) := by decide +kernel
theorem dX5_saved_2 : decode cX5_saved 2 = .ok (.invokevirtual 110, 3) := by decide +kernel
theorem dX5_saved_5 : decode cX5_saved 5 = .ok (.aload_n 0, 1) := by decide +kernel
theorem dX5_saved_6 : decode cX5_saved 6 = .ok (.invokevirtual 107, 3) := by decide +kernel
theorem dX5_saved_9 : decode cX5_saved 9 = .ok (.isub, 1) := by decide +kernel
theorem dX5_saved_10 : decode cX5_saved 10 = .ok (.invokevirtual 95, 3) := by decide +kernel
theorem dX5_saved_13 : decode cX5_saved 13 = .ok (.ireturn, 1) := by decide +kernel
set_option maxRecDepth 20000 in
theorem ggX5_setQuality_X5_isIn : GoodIn wsX5_setQuality wsX5_isIn := goodIn_r _ [6] (by decide +kernel) (by decide +kernel)
set_option maxRecDepth 20000 in
theorem gX5_setQuality_X5_isIn : GoodIn wsX5_setQuality (va_wsS RX5 32 yX5_isIn wsX5_isIn) := goodIn_app (goodIn_of _ (by decide +kernel)) ggX5_setQuality_X5_isIn
set_option maxRecDepth 20000 in
theorem ggX5_setQuality_X5_fail : GoodIn wsX5_setQuality wsX5_fail := goodIn_r _ [10, 1, 11, 12, 13, 14, 15, 16, 17, 18, 19, 20, 21, 22, 23, 24, 25, 26, 27] (by decide +kernel) (by decide +kernel)
set_option maxRecDepth 20000 in
theorem gX5_setQuality_X5_fail : GoodIn wsX5_setQuality (wsV RX5 89 RX5 yX5_fail wsX5_fail) := goodIn_app (goodIn_of _ (by decide +kernel)) ggX5_setQuality_X5_fail
theorem dX5_setQuality_0 : decode cX5_setQuality 0 = .ok (.aload_n 0, 1) := by decide +kernel
theorem dX5_setQuality_1 : decode cX5_setQuality 1 = .ok (.iconst 0, 1) := by decide +kernel
theorem dX5_setQuality_2 : decode cX5_setQuality 2 = .ok (.putfield 29, 3) := by decide +kernel
theorem dX5_setQuality_5 : decode cX5_setQuality 5 = .ok (.iload_n 1, 1) := by decide +kernel
theorem dX5_setQuality_6 : decode cX5_setQuality 6 = .ok (.iconst 1, 1) := by decide +kernel
theorem dX5_setQuality_7 : decode cX5_setQuality 7 = .ok (.bipush 9, 2) := by decide +kernel
theorem dX5_setQuality_9 : decode cX5_setQuality 9 = .ok (.invokestatic 32, 3) := by decide +kernel
theorem dX5_setQuality_12 : decode cX5_setQuality 12 = .ok (.ifCond .ne 9, 3) := by decide +kernel
theorem dX5_setQuality_15 : decode cX5_setQuality 15 = .ok (.aload_n 0, 1) := by decide +kernel
theorem dX5_setQuality_16 : decode cX5_setQuality 16 = .ok (.iconst 1, 1) := by decide +kernel
theorem dX5_setQuality_17 : decode cX5_setQuality 17 = .ok (.invokevirtual 89, 3) := by decide +kernel
theorem dX5_setQuality_20 : decode cX5_setQuality 20 = .ok (.ireturn, 1) := by decide +kernel
theorem dX5_setQuality_21 : decode cX5_setQuality 21 = .ok (.aload_n 0, 1) := by decide +kernel
theorem dX5_setQuality_22 : decode cX5_setQuality 22 = .ok (.getfield 19, 3) := by decide +kernel
theorem dX5_setQuality_25 : decode cX5_setQuality 25 = .ok (.istore_n 2, 1) := by decide +kernel
theorem dX5_setQuality_26 : decode cX5_setQuality 26 = .ok (.aload_n 0, 1) := by decide +kernel
theorem dX5_setQuality_27 : decode cX5_setQuality 27 = .ok (.iload_n 1, 1) := by decide +kernel
theorem dX5_setQuality_28 : decode cX5_setQuality 28 = .ok (.putfield 19, 3) := by decide +kernel
theorem dX5_setQuality_31 : decode cX5_setQuality 31 = .ok (.iload_n 2, 1) := by decide +kernel
theorem dX5_setQuality_32 : decode cX5_setQuality 32 = .ok (.ireturn, 1) := by decide +kernel
set_option maxRecDepth 20000 in
theorem ggX5_send_X5_fail : GoodIn wsX5_send wsX5_fail := goodIn_r _ [15, 1, 62, 63, 64, 65, 66, 67, 68, 69, 70, 71, 72, 73, 74, 75, 76, 77, 78] (by decide +kernel) (by decide +kernel)
set_option maxRecDepth 20000 in
theorem gX5_send_X5_fail : GoodIn wsX5_send (wsV RX5 89 RX5 yX5_fail wsX5_fail) := goodIn_app (goodIn_of _ (by decide +kernel)) ggX5_send_X5_fail
set_option maxRecDepth 20000 in
theorem ggX5_send_X5_priceNow : GoodIn wsX5_send wsX5_priceNow := goodIn_r _ [19, 20, 21, 22, 14, 23, 24, 2, 25, 26, 27, 28, 29, 30, 31, 32, 33, 34, 35, 36, 37, 38, 39, 40, 41, 42, 43, 44, 45, 46, 47, 48, 49, 62, 63, 64, 65, 66, 67, 68, 69, 70, 71, 72, 73, 74, 75, 76, 77, 78] (by decide +kernel) (by decide +kernel)
set_option maxRecDepth 20000 in
theorem gX5_send_X5_priceNow : GoodIn wsX5_send (wsV RX5 107 RX5 yX5_priceNow wsX5_priceNow) := goodIn_app (goodIn_of _ (by decide +kernel)) ggX5_send_X5_priceNow
set_option maxRecDepth 20000 in
theorem ggX5_send_X5_all : GoodIn wsX5_send wsX5_all := goodIn_r _ [53, 24, 31, 27, 28, 29, 14, 30, 2, 25, 32, 33, 34, 35, 36, 37, 26, 62, 63, 64, 65, 66, 67, 68, 69, 70, 71, 72, 73, 74, 75, 76, 77, 78] (by decide +kernel) (by decide +kernel)
set_option maxRecDepth 20000 in
theorem gX5_send_X5_all : GoodIn wsX5_send (wsV RX5 98 RX5 yX5_all wsX5_all) := goodIn_app (goodIn_of _ (by decide +kernel)) ggX5_send_X5_all
set_option maxRecDepth 20000 in
theorem ggX5_send_X5_go : GoodIn wsX5_send wsX5_go := goodIn_r _ [57, 6, 8, 10, 58, 5, 59, 60, 14, 61, 62, 63, 64, 65, 66, 67, 68, 69, 70, 71, 72, 73, 74, 75, 76, 77, 78] (by decide +kernel) (by decide +kernel)
set_option maxRecDepth 20000 in
theorem gX5_send_X5_go : GoodIn wsX5_send (wsV RX5 116 RX5 yX5_go wsX5_go) := goodIn_app (goodIn_of _ (by decide +kernel)) ggX5_send_X5_go
theorem dX5_send_0 : decode cX5_send 0 = .ok (.aload_n 0, 1) := by decide +kernel
theorem dX5_send_1 : decode cX5_send 1 = .ok (.iconst 0, 1) := by decide +kernel
theorem dX5_send_2 : decode cX5_send 2 = .ok (.putfield 29, 3) := by decide +kernel
theorem dX5_send_5 : decode cX5_send 5 = .ok (.aload_n 0, 1) := by decide +kernel
theorem dX5_send_6 : decode cX5_send 6 = .ok (.getfield 39, 3) := by decide +kernel
theorem dX5_send_9 : decode cX5_send 9 = .ok (.ifCond .ne 9, 3) := by decide +kernel
theorem dX5_send_12 : decode cX5_send 12 = .ok (.aload_n 0, 1) := by decide +kernel
theorem dX5_send_13 : decode cX5_send 13 = .ok (.iconst 1, 1) := by decide +kernel
theorem dX5_send_14 : decode cX5_send 14 = .ok (.invokevirtual 89, 3) := by decide +kernel
theorem dX5_send_17 : decode cX5_send 17 = .ok (.ireturn, 1) := by decide +kernel
theorem dX5_send_18 : decode cX5_send 18 = .ok (.aload_n 0, 1) := by decide +kernel
theorem dX5_send_19 : decode cX5_send 19 = .ok (.dup, 1) := by decide +kernel
theorem dX5_send_20 : decode cX5_send 20 = .ok (.getfield 113, 3) := by decide +kernel
theorem dX5_send_23 : decode cX5_send 23 = .ok (.aload_n 0, 1) := by decide +kernel
theorem dX5_send_24 : decode cX5_send 24 = .ok (.invokevirtual 107, 3) := by decide +kernel
theorem dX5_send_27 : decode cX5_send 27 = .ok (.iadd, 1) := by decide +kernel
theorem dX5_send_28 : decode cX5_send 28 = .ok (.putfield 113, 3) := by decide +kernel
theorem dX5_send_31 : decode cX5_send 31 = .ok (.aload_n 0, 1) := by decide +kernel
theorem dX5_send_32 : decode cX5_send 32 = .ok (.aload_n 0, 1) := by decide +kernel
theorem dX5_send_33 : decode cX5_send 33 = .ok (.invokevirtual 98, 3) := by decide +kernel
theorem dX5_send_36 : decode cX5_send 36 = .ok (.aload_n 0, 1) := by decide +kernel
theorem dX5_send_37 : decode cX5_send 37 = .ok (.getfield 19, 3) := by decide +kernel
theorem dX5_send_40 : decode cX5_send 40 = .ok (.invokevirtual 116, 3) := by decide +kernel
theorem dX5_send_43 : decode cX5_send 43 = .ok (.aload_n 0, 1) := by decide +kernel
theorem dX5_send_44 : decode cX5_send 44 = .ok (.dup, 1) := by decide +kernel
theorem dX5_send_45 : decode cX5_send 45 = .ok (.getfield 78, 3) := by decide +kernel
theorem dX5_send_48 : decode cX5_send 48 = .ok (.aload_n 0, 1) := by decide +kernel
theorem dX5_send_49 : decode cX5_send 49 = .ok (.getfield 66, 3) := by decide +kernel
theorem dX5_send_52 : decode cX5_send 52 = .ok (.iadd, 1) := by decide +kernel
theorem dX5_send_53 : decode cX5_send 53 = .ok (.putfield 78, 3) := by decide +kernel
theorem dX5_send_56 : decode cX5_send 56 = .ok (.aload_n 0, 1) := by decide +kernel
theorem dX5_send_57 : decode cX5_send 57 = .ok (.dup, 1) := by decide +kernel
theorem dX5_send_58 : decode cX5_send 58 = .ok (.getfield 119, 3) := by decide +kernel
theorem dX5_send_61 : decode cX5_send 61 = .ok (.aload_n 0, 1) := by decide +kernel
theorem dX5_send_62 : decode cX5_send 62 = .ok (.getfield 69, 3) := by decide +kernel
theorem dX5_send_65 : decode cX5_send 65 = .ok (.iadd, 1) := by decide +kernel
theorem dX5_send_66 : decode cX5_send 66 = .ok (.putfield 119, 3) := by decide +kernel
theorem dX5_send_69 : decode cX5_send 69 = .ok (.aload_n 0, 1) := by decide +kernel
theorem dX5_send_70 : decode cX5_send 70 = .ok (.dup, 1) := by decide +kernel
theorem dX5_send_71 : decode cX5_send 71 = .ok (.getfield 122, 3) := by decide +kernel
theorem dX5_send_74 : decode cX5_send 74 = .ok (.aload_n 0, 1) := by decide +kernel
theorem dX5_send_75 : decode cX5_send 75 = .ok (.getfield 72, 3) := by decide +kernel
theorem dX5_send_78 : decode cX5_send 78 = .ok (.iadd, 1) := by decide +kernel
theorem dX5_send_79 : decode cX5_send 79 = .ok (.putfield 122, 3) := by decide +kernel
theorem dX5_send_82 : decode cX5_send 82 = .ok (.aload_n 0, 1) := by decide +kernel
theorem dX5_send_83 : decode cX5_send 83 = .ok (.iconst 0, 1) := by decide +kernel
theorem dX5_send_84 : decode cX5_send 84 = .ok (.putfield 39, 3) := by decide +kernel
theorem dX5_send_87 : decode cX5_send 87 = .ok (.aload_n 0, 1) := by decide +kernel
theorem dX5_send_88 : decode cX5_send 88 = .ok (.getfield 72, 3) := by decide +kernel
theorem dX5_send_91 : decode cX5_send 91 = .ok (.ireturn, 1) := by decide +kernel
set_option maxRecDepth 20000 in
theorem ggX5_sentGroups_X5_told : GoodIn wsX5_sentGroups wsX5_told := goodIn_r _ [6, 7, 8, 9, 10, 11, 12, 13, 14, 15, 16, 17, 18, 19, 20, 21, 22, 23, 24] (by decide +kernel) (by decide +kernel)
set_option maxRecDepth 20000 in
theorem gX5_sentGroups_X5_told : GoodIn wsX5_sentGroups (wsV RX5 95 RX5 yX5_told wsX5_told) := goodIn_app (goodIn_of _ (by decide +kernel)) ggX5_sentGroups_X5_told
theorem dX5_sentGroups_0 : decode cX5_sentGroups 0 = .ok (.aload_n 0, 1) := by decide +kernel
theorem dX5_sentGroups_1 : decode cX5_sentGroups 1 = .ok (.aload_n 0, 1) := by decide +kernel
theorem dX5_sentGroups_2 : decode cX5_sentGroups 2 = .ok (.getfield 78, 3) := by decide +kernel
theorem dX5_sentGroups_5 : decode cX5_sentGroups 5 = .ok (.invokevirtual 95, 3) := by decide +kernel
theorem dX5_sentGroups_8 : decode cX5_sentGroups 8 = .ok (.ireturn, 1) := by decide +kernel
set_option maxRecDepth 20000 in
theorem ggX5_repeats_X5_told : GoodIn wsX5_repeats wsX5_told := goodIn_r _ [6, 7, 8, 9, 10, 11, 12, 13, 14, 15, 16, 17, 18, 19, 20, 21, 22, 23, 24] (by decide +kernel) (by decide +kernel)
set_option maxRecDepth 20000 in
theorem gX5_repeats_X5_told : GoodIn wsX5_repeats (wsV RX5 95 RX5 yX5_told wsX5_told) := goodIn_app (goodIn_of _ (by decide +kernel)) ggX5_repeats_X5_told
theorem dX5_repeats_0 : decode cX5_repeats 0 = .ok (.aload_n 0, 1) := by decide +kernel
theorem dX5_repeats_1 : decode cX5_repeats 1 = .ok (.aload_n 0, 1) := by decide +kernel
theorem dX5_repeats_2 : decode cX5_repeats 2 = .ok (.getfield 119, 3) := by decide +kernel
theorem dX5_repeats_5 : decode cX5_repeats 5 = .ok (.invokevirtual 95, 3) := by decide +kernel
theorem dX5_repeats_8 : decode cX5_repeats 8 = .ok (.ireturn, 1) := by decide +kernel
set_option maxRecDepth 20000 in
theorem ggX5_lost_X5_told : GoodIn wsX5_lost wsX5_told := goodIn_r _ [6, 7, 8, 9, 10, 11, 12, 13, 14, 15, 16, 17, 18, 19, 20, 21, 22, 23, 24] (by decide +kernel) (by decide +kernel)
set_option maxRecDepth 20000 in
theorem gX5_lost_X5_told : GoodIn wsX5_lost (wsV RX5 95 RX5 yX5_told wsX5_told) := goodIn_app (goodIn_of _ (by decide +kernel)) ggX5_lost_X5_told
theorem dX5_lost_0 : decode cX5_lost 0 = .ok (.aload_n 0, 1) := by decide +kernel
theorem dX5_lost_1 : decode cX5_lost 1 = .ok (.aload_n 0, 1) := by decide +kernel
theorem dX5_lost_2 : decode cX5_lost 2 = .ok (.getfield 122, 3) := by decide +kernel
theorem dX5_lost_5 : decode cX5_lost 5 = .ok (.invokevirtual 95, 3) := by decide +kernel
theorem dX5_lost_8 : decode cX5_lost 8 = .ok (.ireturn, 1) := by decide +kernel
set_option maxRecDepth 20000 in
theorem ggX5_earned_X5_told : GoodIn wsX5_earned wsX5_told := goodIn_r _ [6, 7, 8, 9, 10, 11, 12, 13, 14, 15, 16, 17, 18, 19, 20, 21, 22, 23, 24] (by decide +kernel) (by decide +kernel)
set_option maxRecDepth 20000 in
theorem gX5_earned_X5_told : GoodIn wsX5_earned (wsV RX5 95 RX5 yX5_told wsX5_told) := goodIn_app (goodIn_of _ (by decide +kernel)) ggX5_earned_X5_told
theorem dX5_earned_0 : decode cX5_earned 0 = .ok (.aload_n 0, 1) := by decide +kernel
theorem dX5_earned_1 : decode cX5_earned 1 = .ok (.aload_n 0, 1) := by decide +kernel
theorem dX5_earned_2 : decode cX5_earned 2 = .ok (.getfield 113, 3) := by decide +kernel
theorem dX5_earned_5 : decode cX5_earned 5 = .ok (.invokevirtual 95, 3) := by decide +kernel
theorem dX5_earned_8 : decode cX5_earned 8 = .ok (.ireturn, 1) := by decide +kernel
set_option maxRecDepth 20000 in
theorem ggX5_until_X5_isGarbled : GoodIn wsX5_until wsX5_isGarbled := goodIn_r _ [6] (by decide +kernel) (by decide +kernel)
set_option maxRecDepth 20000 in
theorem gX5_until_X5_isGarbled : GoodIn wsX5_until (va_wsS RX5 81 yX5_isGarbled wsX5_isGarbled) := goodIn_app (goodIn_of _ (by decide +kernel)) ggX5_until_X5_isGarbled
theorem dX5_until_0 : decode cX5_until 0 = .ok (.iconst 1, 1) := by decide +kernel
theorem dX5_until_1 : decode cX5_until 1 = .ok (.istore_n 1, 1) := by decide +kernel
theorem dX5_until_2 : decode cX5_until 2 = .ok (.aload_n 0, 1) := by decide +kernel
theorem dX5_until_3 : decode cX5_until 3 = .ok (.getfield 78, 3) := by decide +kernel
theorem dX5_until_6 : decode cX5_until 6 = .ok (.iload_n 1, 1) := by decide +kernel
theorem dX5_until_7 : decode cX5_until 7 = .ok (.iadd, 1) := by decide +kernel
theorem dX5_until_8 : decode cX5_until 8 = .ok (.aload_n 0, 1) := by decide +kernel
theorem dX5_until_9 : decode cX5_until 9 = .ok (.getfield 19, 3) := by decide +kernel
theorem dX5_until_12 : decode cX5_until 12 = .ok (.invokestatic 81, 3) := by decide +kernel
theorem dX5_until_15 : decode cX5_until 15 = .ok (.ifCond .ne 9, 3) := by decide +kernel
theorem dX5_until_18 : decode cX5_until 18 = .ok (.iinc 1 1, 3) := by decide +kernel
theorem dX5_until_21 : decode cX5_until 21 = .ok (.goto (-19), 3) := by decide +kernel
theorem dX5_until_24 : decode cX5_until 24 = .ok (.iload_n 1, 1) := by decide +kernel
theorem dX5_until_25 : decode cX5_until 25 = .ok (.ireturn, 1) := by decide +kernel
set_option maxRecDepth 20000 in
theorem ggX5_untilGarbled_X5_until : GoodIn wsX5_untilGarbled wsX5_until := goodIn_r _ [5, 6, 7, 8, 9, 4, 10, 16, 17, 18, 19, 20, 21, 22, 23, 24, 25, 26, 27, 28, 29, 30, 31, 32] (by decide +kernel) (by decide +kernel)
set_option maxRecDepth 20000 in
theorem gX5_untilGarbled_X5_until : GoodIn wsX5_untilGarbled (wsV RX5 125 RX5 yX5_until wsX5_until) := goodIn_app (goodIn_of _ (by decide +kernel)) ggX5_untilGarbled_X5_until
set_option maxRecDepth 20000 in
theorem ggX5_untilGarbled_X5_told : GoodIn wsX5_untilGarbled wsX5_told := goodIn_r _ [14, 15, 16, 17, 18, 19, 20, 21, 22, 23, 24, 25, 26, 27, 28, 29, 30, 31, 32] (by decide +kernel) (by decide +kernel)
set_option maxRecDepth 20000 in
theorem gX5_untilGarbled_X5_told : GoodIn wsX5_untilGarbled (wsV RX5 95 RX5 yX5_told wsX5_told) := goodIn_app (goodIn_of _ (by decide +kernel)) ggX5_untilGarbled_X5_told
theorem dX5_untilGarbled_0 : decode cX5_untilGarbled 0 = .ok (.aload_n 0, 1) := by decide +kernel
theorem dX5_untilGarbled_1 : decode cX5_untilGarbled 1 = .ok (.aload_n 0, 1) := by decide +kernel
theorem dX5_untilGarbled_2 : decode cX5_untilGarbled 2 = .ok (.invokevirtual 125, 3) := by decide +kernel
theorem dX5_untilGarbled_5 : decode cX5_untilGarbled 5 = .ok (.invokevirtual 95, 3) := by decide +kernel
theorem dX5_untilGarbled_8 : decode cX5_untilGarbled 8 = .ok (.ireturn, 1) := by decide +kernel
set_option maxRecDepth 20000 in
theorem ggX5_garbled_X5_all : GoodIn wsX5_garbled wsX5_all := goodIn_r _ [7, 8, 9, 10, 11, 12, 6, 13, 14, 15, 16, 17, 18, 19, 20, 21, 22, 34, 35, 36, 37, 38, 39, 40, 41, 42, 43, 44, 45, 46, 47, 48, 49, 50] (by decide +kernel) (by decide +kernel)
set_option maxRecDepth 20000 in
theorem gX5_garbled_X5_all : GoodIn wsX5_garbled (wsV RX5 98 RX5 yX5_all wsX5_all) := goodIn_app (goodIn_of _ (by decide +kernel)) ggX5_garbled_X5_all
set_option maxRecDepth 20000 in
theorem ggX5_garbled_X5_go : GoodIn wsX5_garbled wsX5_go := goodIn_r _ [26, 27, 28, 29, 2, 30, 31, 32, 6, 33, 34, 35, 36, 37, 38, 39, 40, 41, 42, 43, 44, 45, 46, 47, 48, 49, 50] (by decide +kernel) (by decide +kernel)
set_option maxRecDepth 20000 in
theorem gX5_garbled_X5_go : GoodIn wsX5_garbled (wsV RX5 116 RX5 yX5_go wsX5_go) := goodIn_app (goodIn_of _ (by decide +kernel)) ggX5_garbled_X5_go
theorem dX5_garbled_0 : decode cX5_garbled 0 = .ok (.aload_n 0, 1) := by decide +kernel
theorem dX5_garbled_1 : decode cX5_garbled 1 = .ok (.aload_n 0, 1) := by decide +kernel
theorem dX5_garbled_2 : decode cX5_garbled 2 = .ok (.invokevirtual 98, 3) := by decide +kernel
theorem dX5_garbled_5 : decode cX5_garbled 5 = .ok (.aload_n 0, 1) := by decide +kernel
theorem dX5_garbled_6 : decode cX5_garbled 6 = .ok (.getfield 19, 3) := by decide +kernel
theorem dX5_garbled_9 : decode cX5_garbled 9 = .ok (.invokevirtual 116, 3) := by decide +kernel
theorem dX5_garbled_12 : decode cX5_garbled 12 = .ok (.aload_n 0, 1) := by decide +kernel
theorem dX5_garbled_13 : decode cX5_garbled 13 = .ok (.getfield 75, 3) := by decide +kernel
theorem dX5_garbled_16 : decode cX5_garbled 16 = .ok (.ireturn, 1) := by decide +kernel
set_option maxRecDepth 20000 in
theorem ggX5_wouldBeGarbled_X5_garbled : GoodIn wsX5_wouldBeGarbled wsX5_garbled := goodIn_r _ [5, 6, 7, 8, 9, 10, 4, 11, 12, 13, 14, 15, 16, 17, 18, 19, 20, 21, 22, 23, 24, 25, 26, 27, 28, 29, 30, 31, 32, 33, 34, 35, 36, 37, 43, 44, 45, 46, 47, 48, 49, 50, 51, 52, 53, 54, 55, 56, 57, 58, 59] (by decide +kernel) (by decide +kernel)
set_option maxRecDepth 20000 in
theorem gX5_wouldBeGarbled_X5_garbled : GoodIn wsX5_wouldBeGarbled (wsV RX5 128 RX5 yX5_garbled wsX5_garbled) := goodIn_app (goodIn_of _ (by decide +kernel)) ggX5_wouldBeGarbled_X5_garbled
set_option maxRecDepth 20000 in
theorem ggX5_wouldBeGarbled_X5_told : GoodIn wsX5_wouldBeGarbled wsX5_told := goodIn_r _ [41, 42, 43, 44, 45, 46, 47, 48, 49, 50, 51, 52, 53, 54, 55, 56, 57, 58, 59] (by decide +kernel) (by decide +kernel)
set_option maxRecDepth 20000 in
theorem gX5_wouldBeGarbled_X5_told : GoodIn wsX5_wouldBeGarbled (wsV RX5 95 RX5 yX5_told wsX5_told) := goodIn_app (goodIn_of _ (by decide +kernel)) ggX5_wouldBeGarbled_X5_told
theorem dX5_wouldBeGarbled_0 : decode cX5_wouldBeGarbled 0 = .ok (.aload_n 0, 1) := by decide +kernel
theorem dX5_wouldBeGarbled_1 : decode cX5_wouldBeGarbled 1 = .ok (.aload_n 0, 1) := by decide +kernel
theorem dX5_wouldBeGarbled_2 : decode cX5_wouldBeGarbled 2 = .ok (.invokevirtual 128, 3) := by decide +kernel
theorem dX5_wouldBeGarbled_5 : decode cX5_wouldBeGarbled 5 = .ok (.invokevirtual 95, 3) := by decide +kernel
theorem dX5_wouldBeGarbled_8 : decode cX5_wouldBeGarbled 8 = .ok (.ireturn, 1) := by decide +kernel
set_option maxRecDepth 20000 in
theorem ggX5_again_X5_all : GoodIn wsX5_again wsX5_all := goodIn_r _ [7, 8, 9, 10, 11, 12, 6, 13, 14, 15, 16, 17, 18, 19, 20, 21, 22, 34, 35, 36, 37, 38, 39, 40, 41, 42, 43, 44, 45, 46, 47, 48, 49, 50] (by decide +kernel) (by decide +kernel)
set_option maxRecDepth 20000 in
theorem gX5_again_X5_all : GoodIn wsX5_again (wsV RX5 98 RX5 yX5_all wsX5_all) := goodIn_app (goodIn_of _ (by decide +kernel)) ggX5_again_X5_all
set_option maxRecDepth 20000 in
theorem ggX5_again_X5_go : GoodIn wsX5_again wsX5_go := goodIn_r _ [26, 27, 2, 28, 29, 30, 31, 32, 6, 33, 34, 35, 36, 37, 38, 39, 40, 41, 42, 43, 44, 45, 46, 47, 48, 49, 50] (by decide +kernel) (by decide +kernel)
set_option maxRecDepth 20000 in
theorem gX5_again_X5_go : GoodIn wsX5_again (wsV RX5 116 RX5 yX5_go wsX5_go) := goodIn_app (goodIn_of _ (by decide +kernel)) ggX5_again_X5_go
theorem dX5_again_0 : decode cX5_again 0 = .ok (.aload_n 0, 1) := by decide +kernel
theorem dX5_again_1 : decode cX5_again 1 = .ok (.aload_n 0, 1) := by decide +kernel
theorem dX5_again_2 : decode cX5_again 2 = .ok (.invokevirtual 98, 3) := by decide +kernel
theorem dX5_again_5 : decode cX5_again 5 = .ok (.aload_n 0, 1) := by decide +kernel
theorem dX5_again_6 : decode cX5_again 6 = .ok (.getfield 19, 3) := by decide +kernel
theorem dX5_again_9 : decode cX5_again 9 = .ok (.invokevirtual 116, 3) := by decide +kernel
theorem dX5_again_12 : decode cX5_again 12 = .ok (.aload_n 0, 1) := by decide +kernel
theorem dX5_again_13 : decode cX5_again 13 = .ok (.getfield 69, 3) := by decide +kernel
theorem dX5_again_16 : decode cX5_again 16 = .ok (.ireturn, 1) := by decide +kernel
set_option maxRecDepth 20000 in
theorem ggX5_repeatsIfSent_X5_again : GoodIn wsX5_repeatsIfSent wsX5_again := goodIn_r _ [5, 6, 7, 8, 9, 10, 4, 11, 12, 13, 14, 15, 16, 17, 18, 19, 20, 21, 22, 23, 24, 25, 26, 27, 28, 29, 30, 31, 32, 33, 34, 35, 36, 37, 43, 44, 45, 46, 47, 48, 49, 50, 51, 52, 53, 54, 55, 56, 57, 58, 59] (by decide +kernel) (by decide +kernel)
set_option maxRecDepth 20000 in
theorem gX5_repeatsIfSent_X5_again : GoodIn wsX5_repeatsIfSent (wsV RX5 131 RX5 yX5_again wsX5_again) := goodIn_app (goodIn_of _ (by decide +kernel)) ggX5_repeatsIfSent_X5_again
set_option maxRecDepth 20000 in
theorem ggX5_repeatsIfSent_X5_told : GoodIn wsX5_repeatsIfSent wsX5_told := goodIn_r _ [41, 42, 43, 44, 45, 46, 47, 48, 49, 50, 51, 52, 53, 54, 55, 56, 57, 58, 59] (by decide +kernel) (by decide +kernel)
set_option maxRecDepth 20000 in
theorem gX5_repeatsIfSent_X5_told : GoodIn wsX5_repeatsIfSent (wsV RX5 95 RX5 yX5_told wsX5_told) := goodIn_app (goodIn_of _ (by decide +kernel)) ggX5_repeatsIfSent_X5_told
theorem dX5_repeatsIfSent_0 : decode cX5_repeatsIfSent 0 = .ok (.aload_n 0, 1) := by decide +kernel
theorem dX5_repeatsIfSent_1 : decode cX5_repeatsIfSent 1 = .ok (.aload_n 0, 1) := by decide +kernel
theorem dX5_repeatsIfSent_2 : decode cX5_repeatsIfSent 2 = .ok (.invokevirtual 131, 3) := by decide +kernel
theorem dX5_repeatsIfSent_5 : decode cX5_repeatsIfSent 5 = .ok (.invokevirtual 95, 3) := by decide +kernel
theorem dX5_repeatsIfSent_8 : decode cX5_repeatsIfSent 8 = .ok (.ireturn, 1) := by decide +kernel
set_option maxRecDepth 20000 in
theorem ggX5_wanted_X5_all : GoodIn wsX5_wanted wsX5_all := goodIn_r _ [6, 7, 8, 9, 10, 11, 5, 12, 13, 14, 15, 16, 17, 18, 19, 20, 21, 33, 34, 35, 36, 37, 38, 39, 40, 41, 42, 43, 44, 45, 46, 47, 48, 49] (by decide +kernel) (by decide +kernel)
set_option maxRecDepth 20000 in
theorem gX5_wanted_X5_all : GoodIn wsX5_wanted (wsV RX5 98 RX5 yX5_all wsX5_all) := goodIn_app (goodIn_of _ (by decide +kernel)) ggX5_wanted_X5_all
set_option maxRecDepth 20000 in
theorem ggX5_wanted_X5_go : GoodIn wsX5_wanted wsX5_go := goodIn_r _ [25, 26, 27, 1, 28, 29, 30, 31, 5, 32, 33, 34, 35, 36, 37, 38, 39, 40, 41, 42, 43, 44, 45, 46, 47, 48, 49] (by decide +kernel) (by decide +kernel)
set_option maxRecDepth 20000 in
theorem gX5_wanted_X5_go : GoodIn wsX5_wanted (wsV RX5 116 RX5 yX5_go wsX5_go) := goodIn_app (goodIn_of _ (by decide +kernel)) ggX5_wanted_X5_go
theorem dX5_wanted_0 : decode cX5_wanted 0 = .ok (.aload_n 0, 1) := by decide +kernel
theorem dX5_wanted_1 : decode cX5_wanted 1 = .ok (.invokevirtual 98, 3) := by decide +kernel
theorem dX5_wanted_4 : decode cX5_wanted 4 = .ok (.istore_n 1, 1) := by decide +kernel
theorem dX5_wanted_5 : decode cX5_wanted 5 = .ok (.iconst 1, 1) := by decide +kernel
theorem dX5_wanted_6 : decode cX5_wanted 6 = .ok (.istore_n 2, 1) := by decide +kernel
theorem dX5_wanted_7 : decode cX5_wanted 7 = .ok (.iload_n 2, 1) := by decide +kernel
theorem dX5_wanted_8 : decode cX5_wanted 8 = .ok (.bipush 9, 2) := by decide +kernel
theorem dX5_wanted_10 : decode cX5_wanted 10 = .ok (.if_icmp .gt 24, 3) := by decide +kernel
theorem dX5_wanted_13 : decode cX5_wanted 13 = .ok (.aload_n 0, 1) := by decide +kernel
theorem dX5_wanted_14 : decode cX5_wanted 14 = .ok (.iload_n 1, 1) := by decide +kernel
theorem dX5_wanted_15 : decode cX5_wanted 15 = .ok (.iload_n 2, 1) := by decide +kernel
theorem dX5_wanted_16 : decode cX5_wanted 16 = .ok (.invokevirtual 116, 3) := by decide +kernel
theorem dX5_wanted_19 : decode cX5_wanted 19 = .ok (.aload_n 0, 1) := by decide +kernel
theorem dX5_wanted_20 : decode cX5_wanted 20 = .ok (.getfield 72, 3) := by decide +kernel
theorem dX5_wanted_23 : decode cX5_wanted 23 = .ok (.ifCond .ne 5, 3) := by decide +kernel
theorem dX5_wanted_26 : decode cX5_wanted 26 = .ok (.iload_n 2, 1) := by decide +kernel
theorem dX5_wanted_27 : decode cX5_wanted 27 = .ok (.ireturn, 1) := by decide +kernel
theorem dX5_wanted_28 : decode cX5_wanted 28 = .ok (.iinc 2 1, 3) := by decide +kernel
theorem dX5_wanted_31 : decode cX5_wanted 31 = .ok (.goto (-24), 3) := by decide +kernel
theorem dX5_wanted_34 : decode cX5_wanted 34 = .ok (.iconst (-1), 1) := by decide +kernel
theorem dX5_wanted_35 : decode cX5_wanted 35 = .ok (.ireturn, 1) := by decide +kernel
set_option maxRecDepth 20000 in
theorem ggX5_qualityWanted_X5_wanted : GoodIn wsX5_qualityWanted wsX5_wanted := goodIn_r _ [5, 6, 7, 8, 9, 4, 10, 11, 12, 13, 14, 15, 16, 17, 18, 19, 20, 21, 22, 23, 24, 25, 26, 27, 28, 29, 30, 31, 32, 33, 34, 35, 36, 42, 43, 44, 45, 46, 47, 48, 49, 50, 51, 52, 53, 54, 55, 56, 57, 58] (by decide +kernel) (by decide +kernel)
set_option maxRecDepth 20000 in
theorem gX5_qualityWanted_X5_wanted : GoodIn wsX5_qualityWanted (wsV RX5 134 RX5 yX5_wanted wsX5_wanted) := goodIn_app (goodIn_of _ (by decide +kernel)) ggX5_qualityWanted_X5_wanted
set_option maxRecDepth 20000 in
theorem ggX5_qualityWanted_X5_told : GoodIn wsX5_qualityWanted wsX5_told := goodIn_r _ [40, 41, 42, 43, 44, 45, 46, 47, 48, 49, 50, 51, 52, 53, 54, 55, 56, 57, 58] (by decide +kernel) (by decide +kernel)
set_option maxRecDepth 20000 in
theorem gX5_qualityWanted_X5_told : GoodIn wsX5_qualityWanted (wsV RX5 95 RX5 yX5_told wsX5_told) := goodIn_app (goodIn_of _ (by decide +kernel)) ggX5_qualityWanted_X5_told
theorem dX5_qualityWanted_0 : decode cX5_qualityWanted 0 = .ok (.aload_n 0, 1) := by decide +kernel
theorem dX5_qualityWanted_1 : decode cX5_qualityWanted 1 = .ok (.aload_n 0, 1) := by decide +kernel
theorem dX5_qualityWanted_2 : decode cX5_qualityWanted 2 = .ok (.invokevirtual 134, 3) := by decide +kernel
theorem dX5_qualityWanted_5 : decode cX5_qualityWanted 5 = .ok (.invokevirtual 95, 3) := by decide +kernel
theorem dX5_qualityWanted_8 : decode cX5_qualityWanted 8 = .ok (.ireturn, 1) := by decide +kernel
set_option maxRecDepth 20000 in
theorem ggX5_useless_X5_all : GoodIn wsX5_useless wsX5_all := goodIn_r _ [7, 1, 2, 8, 9, 10, 6, 11, 12, 13, 14, 15, 16, 17, 18, 19, 20, 21, 22, 23, 24, 25, 26, 27, 28, 29, 30, 31, 32, 33, 34, 35, 36, 37] (by decide +kernel) (by decide +kernel)
set_option maxRecDepth 20000 in
theorem gX5_useless_X5_all : GoodIn wsX5_useless (wsV RX5 98 RX5 yX5_all wsX5_all) := goodIn_app (goodIn_of _ (by decide +kernel)) ggX5_useless_X5_all
set_option maxRecDepth 20000 in
theorem ggX5_useless_X5_part : GoodIn wsX5_useless wsX5_part := goodIn_r _ [11, 2, 12, 13, 14, 15, 16, 17, 18, 6, 19, 20, 21, 22, 23, 24, 25, 26, 27, 28, 29, 30, 31, 32, 33, 34, 35, 36, 37] (by decide +kernel) (by decide +kernel)
set_option maxRecDepth 20000 in
theorem gX5_useless_X5_part : GoodIn wsX5_useless (wsV RX5 46 RX5 yX5_part wsX5_part) := goodIn_app (goodIn_of _ (by decide +kernel)) ggX5_useless_X5_part
theorem dX5_useless_0 : decode cX5_useless 0 = .ok (.aload_n 0, 1) := by decide +kernel
theorem dX5_useless_1 : decode cX5_useless 1 = .ok (.invokevirtual 98, 3) := by decide +kernel
theorem dX5_useless_4 : decode cX5_useless 4 = .ok (.istore_n 1, 1) := by decide +kernel
theorem dX5_useless_5 : decode cX5_useless 5 = .ok (.iconst 0, 1) := by decide +kernel
theorem dX5_useless_6 : decode cX5_useless 6 = .ok (.istore_n 2, 1) := by decide +kernel
theorem dX5_useless_7 : decode cX5_useless 7 = .ok (.iload_n 2, 1) := by decide +kernel
theorem dX5_useless_8 : decode cX5_useless 8 = .ok (.aload_n 0, 1) := by decide +kernel
theorem dX5_useless_9 : decode cX5_useless 9 = .ok (.getfield 36, 3) := by decide +kernel
theorem dX5_useless_12 : decode cX5_useless 12 = .ok (.if_icmp .ge 30, 3) := by decide +kernel
theorem dX5_useless_15 : decode cX5_useless 15 = .ok (.aload_n 0, 1) := by decide +kernel
theorem dX5_useless_16 : decode cX5_useless 16 = .ok (.aload_n 0, 1) := by decide +kernel
theorem dX5_useless_17 : decode cX5_useless 17 = .ok (.getfield 36, 3) := by decide +kernel
theorem dX5_useless_20 : decode cX5_useless 20 = .ok (.iload_n 2, 1) := by decide +kernel
theorem dX5_useless_21 : decode cX5_useless 21 = .ok (.invokevirtual 46, 3) := by decide +kernel
theorem dX5_useless_24 : decode cX5_useless 24 = .ok (.aload_n 0, 1) := by decide +kernel
theorem dX5_useless_25 : decode cX5_useless 25 = .ok (.getfield 23, 3) := by decide +kernel
theorem dX5_useless_28 : decode cX5_useless 28 = .ok (.iconst 0, 1) := by decide +kernel
theorem dX5_useless_29 : decode cX5_useless 29 = .ok (.iaload, 1) := by decide +kernel
theorem dX5_useless_30 : decode cX5_useless 30 = .ok (.iload_n 1, 1) := by decide +kernel
theorem dX5_useless_31 : decode cX5_useless 31 = .ok (.if_icmp .ne 5, 3) := by decide +kernel
theorem dX5_useless_34 : decode cX5_useless 34 = .ok (.iload_n 2, 1) := by decide +kernel
theorem dX5_useless_35 : decode cX5_useless 35 = .ok (.ireturn, 1) := by decide +kernel
theorem dX5_useless_36 : decode cX5_useless 36 = .ok (.iinc 2 1, 3) := by decide +kernel
theorem dX5_useless_39 : decode cX5_useless 39 = .ok (.goto (-32), 3) := by decide +kernel
theorem dX5_useless_42 : decode cX5_useless 42 = .ok (.iconst (-1), 1) := by decide +kernel
theorem dX5_useless_43 : decode cX5_useless 43 = .ok (.ireturn, 1) := by decide +kernel
set_option maxRecDepth 20000 in
theorem ggX5_uselessCode_X5_useless : GoodIn wsX5_uselessCode wsX5_useless := goodIn_r _ [5, 6, 7, 8, 9, 10, 4, 11, 12, 13, 14, 15, 16, 17, 18, 19, 20, 21, 22, 23, 24, 30, 31, 32, 33, 34, 35, 36, 37, 38, 39, 40, 41, 42, 43, 44, 45, 46] (by decide +kernel) (by decide +kernel)
set_option maxRecDepth 20000 in
theorem gX5_uselessCode_X5_useless : GoodIn wsX5_uselessCode (wsV RX5 137 RX5 yX5_useless wsX5_useless) := goodIn_app (goodIn_of _ (by decide +kernel)) ggX5_uselessCode_X5_useless
set_option maxRecDepth 20000 in
theorem ggX5_uselessCode_X5_told : GoodIn wsX5_uselessCode wsX5_told := goodIn_r _ [28, 29, 30, 31, 32, 33, 34, 35, 36, 37, 38, 39, 40, 41, 42, 43, 44, 45, 46] (by decide +kernel) (by decide +kernel)
set_option maxRecDepth 20000 in
theorem gX5_uselessCode_X5_told : GoodIn wsX5_uselessCode (wsV RX5 95 RX5 yX5_told wsX5_told) := goodIn_app (goodIn_of _ (by decide +kernel)) ggX5_uselessCode_X5_told
theorem dX5_uselessCode_0 : decode cX5_uselessCode 0 = .ok (.aload_n 0, 1) := by decide +kernel
theorem dX5_uselessCode_1 : decode cX5_uselessCode 1 = .ok (.aload_n 0, 1) := by decide +kernel
theorem dX5_uselessCode_2 : decode cX5_uselessCode 2 = .ok (.invokevirtual 137, 3) := by decide +kernel
theorem dX5_uselessCode_5 : decode cX5_uselessCode 5 = .ok (.invokevirtual 95, 3) := by decide +kernel
theorem dX5_uselessCode_8 : decode cX5_uselessCode 8 = .ok (.ireturn, 1) := by decide +kernel
set_option maxRecDepth 20000 in
theorem ggX5_bestNew_X5_keyAt : GoodIn wsX5_bestNew wsX5_keyAt := goodIn_r _ [10, 1, 11, 17, 18, 19, 20, 21, 22, 23, 24, 25, 26, 27, 28, 29, 30, 31, 32, 33] (by decide +kernel) (by decide +kernel)
set_option maxRecDepth 20000 in
theorem gX5_bestNew_X5_keyAt : GoodIn wsX5_bestNew (wsV RX5 42 RX5 yX5_keyAt wsX5_keyAt) := goodIn_app (goodIn_of _ (by decide +kernel)) ggX5_bestNew_X5_keyAt
set_option maxRecDepth 20000 in
theorem ggX5_bestNew_X5_part : GoodIn wsX5_bestNew wsX5_part := goodIn_r _ [15, 5, 1, 16, 4, 2, 6, 7, 8, 9, 10, 11, 17, 18, 19, 20, 21, 22, 23, 24, 25, 26, 27, 28, 29, 30, 31, 32, 33] (by decide +kernel) (by decide +kernel)
set_option maxRecDepth 20000 in
theorem gX5_bestNew_X5_part : GoodIn wsX5_bestNew (wsV RX5 46 RX5 yX5_part wsX5_part) := goodIn_app (goodIn_of _ (by decide +kernel)) ggX5_bestNew_X5_part
theorem dX5_bestNew_0 : decode cX5_bestNew 0 = .ok (.iconst (-1), 1) := by decide +kernel
theorem dX5_bestNew_1 : decode cX5_bestNew 1 = .ok (.istore_n 2, 1) := by decide +kernel
theorem dX5_bestNew_2 : decode cX5_bestNew 2 = .ok (.bipush 25, 2) := by decide +kernel
theorem dX5_bestNew_4 : decode cX5_bestNew 4 = .ok (.istore_n 3, 1) := by decide +kernel
theorem dX5_bestNew_5 : decode cX5_bestNew 5 = .ok (.iconst 0, 1) := by decide +kernel
theorem dX5_bestNew_6 : decode cX5_bestNew 6 = .ok (.istore 4, 2) := by decide +kernel
theorem dX5_bestNew_8 : decode cX5_bestNew 8 = .ok (.iload 4, 2) := by decide +kernel
theorem dX5_bestNew_10 : decode cX5_bestNew 10 = .ok (.iload_n 1, 1) := by decide +kernel
theorem dX5_bestNew_11 : decode cX5_bestNew 11 = .ok (.iadd, 1) := by decide +kernel
theorem dX5_bestNew_12 : decode cX5_bestNew 12 = .ok (.aload_n 0, 1) := by decide +kernel
theorem dX5_bestNew_13 : decode cX5_bestNew 13 = .ok (.getfield 39, 3) := by decide +kernel
theorem dX5_bestNew_16 : decode cX5_bestNew 16 = .ok (.if_icmp .gt 69, 3) := by decide +kernel
theorem dX5_bestNew_19 : decode cX5_bestNew 19 = .ok (.aload_n 0, 1) := by decide +kernel
theorem dX5_bestNew_20 : decode cX5_bestNew 20 = .ok (.getfield 9, 3) := by decide +kernel
theorem dX5_bestNew_23 : decode cX5_bestNew 23 = .ok (.aload_n 0, 1) := by decide +kernel
theorem dX5_bestNew_24 : decode cX5_bestNew 24 = .ok (.getfield 36, 3) := by decide +kernel
theorem dX5_bestNew_27 : decode cX5_bestNew 27 = .ok (.aload_n 0, 1) := by decide +kernel
theorem dX5_bestNew_28 : decode cX5_bestNew 28 = .ok (.iload 4, 2) := by decide +kernel
theorem dX5_bestNew_30 : decode cX5_bestNew 30 = .ok (.iload_n 1, 1) := by decide +kernel
theorem dX5_bestNew_31 : decode cX5_bestNew 31 = .ok (.invokevirtual 42, 3) := by decide +kernel
theorem dX5_bestNew_34 : decode cX5_bestNew 34 = .ok (.iastore, 1) := by decide +kernel
theorem dX5_bestNew_35 : decode cX5_bestNew 35 = .ok (.aload_n 0, 1) := by decide +kernel
theorem dX5_bestNew_36 : decode cX5_bestNew 36 = .ok (.getfield 13, 3) := by decide +kernel
theorem dX5_bestNew_39 : decode cX5_bestNew 39 = .ok (.aload_n 0, 1) := by decide +kernel
theorem dX5_bestNew_40 : decode cX5_bestNew 40 = .ok (.getfield 36, 3) := by decide +kernel
theorem dX5_bestNew_43 : decode cX5_bestNew 43 = .ok (.iload_n 1, 1) := by decide +kernel
theorem dX5_bestNew_44 : decode cX5_bestNew 44 = .ok (.iastore, 1) := by decide +kernel
theorem dX5_bestNew_45 : decode cX5_bestNew 45 = .ok (.aload_n 0, 1) := by decide +kernel
theorem dX5_bestNew_46 : decode cX5_bestNew 46 = .ok (.aload_n 0, 1) := by decide +kernel
theorem dX5_bestNew_47 : decode cX5_bestNew 47 = .ok (.getfield 36, 3) := by decide +kernel
theorem dX5_bestNew_50 : decode cX5_bestNew 50 = .ok (.iconst 1, 1) := by decide +kernel
theorem dX5_bestNew_51 : decode cX5_bestNew 51 = .ok (.iadd, 1) := by decide +kernel
theorem dX5_bestNew_52 : decode cX5_bestNew 52 = .ok (.iconst (-1), 1) := by decide +kernel
theorem dX5_bestNew_53 : decode cX5_bestNew 53 = .ok (.invokevirtual 46, 3) := by decide +kernel
theorem dX5_bestNew_56 : decode cX5_bestNew 56 = .ok (.aload_n 0, 1) := by decide +kernel
theorem dX5_bestNew_57 : decode cX5_bestNew 57 = .ok (.getfield 23, 3) := by decide +kernel
theorem dX5_bestNew_60 : decode cX5_bestNew 60 = .ok (.iconst 0, 1) := by decide +kernel
theorem dX5_bestNew_61 : decode cX5_bestNew 61 = .ok (.iaload, 1) := by decide +kernel
theorem dX5_bestNew_62 : decode cX5_bestNew 62 = .ok (.iload_n 3, 1) := by decide +kernel
theorem dX5_bestNew_63 : decode cX5_bestNew 63 = .ok (.if_icmp .lt 6, 3) := by decide +kernel
theorem dX5_bestNew_66 : decode cX5_bestNew 66 = .ok (.goto 13, 3) := by decide +kernel
theorem dX5_bestNew_69 : decode cX5_bestNew 69 = .ok (.iload 4, 2) := by decide +kernel
theorem dX5_bestNew_71 : decode cX5_bestNew 71 = .ok (.istore_n 2, 1) := by decide +kernel
theorem dX5_bestNew_72 : decode cX5_bestNew 72 = .ok (.aload_n 0, 1) := by decide +kernel
theorem dX5_bestNew_73 : decode cX5_bestNew 73 = .ok (.getfield 23, 3) := by decide +kernel
theorem dX5_bestNew_76 : decode cX5_bestNew 76 = .ok (.iconst 0, 1) := by decide +kernel
theorem dX5_bestNew_77 : decode cX5_bestNew 77 = .ok (.iaload, 1) := by decide +kernel
theorem dX5_bestNew_78 : decode cX5_bestNew 78 = .ok (.istore_n 3, 1) := by decide +kernel
theorem dX5_bestNew_79 : decode cX5_bestNew 79 = .ok (.iinc 4 1, 3) := by decide +kernel
theorem dX5_bestNew_82 : decode cX5_bestNew 82 = .ok (.goto (-74), 3) := by decide +kernel
theorem dX5_bestNew_85 : decode cX5_bestNew 85 = .ok (.iload_n 2, 1) := by decide +kernel
theorem dX5_bestNew_86 : decode cX5_bestNew 86 = .ok (.ireturn, 1) := by decide +kernel
set_option maxRecDepth 20000 in
theorem ggX5_bestNewCode_X5_isIn : GoodIn wsX5_bestNewCode wsX5_isIn := goodIn_r _ [5] (by decide +kernel) (by decide +kernel)
set_option maxRecDepth 20000 in
theorem gX5_bestNewCode_X5_isIn : GoodIn wsX5_bestNewCode (va_wsS RX5 32 yX5_isIn wsX5_isIn) := goodIn_app (goodIn_of _ (by decide +kernel)) ggX5_bestNewCode_X5_isIn
set_option maxRecDepth 20000 in
theorem ggX5_bestNewCode_X5_bestNew : GoodIn wsX5_bestNewCode wsX5_bestNew := goodIn_r _ [9, 10, 11, 12, 13, 14, 15, 16, 17, 4, 18, 19, 20, 21, 22, 23, 24, 29, 30, 31, 32, 33, 34, 35, 36, 37, 38, 39, 40, 41, 42, 43, 44, 45] (by decide +kernel) (by decide +kernel)
set_option maxRecDepth 20000 in
theorem gX5_bestNewCode_X5_bestNew : GoodIn wsX5_bestNewCode (wsV RX5 140 RX5 yX5_bestNew wsX5_bestNew) := goodIn_app (goodIn_of _ (by decide +kernel)) ggX5_bestNewCode_X5_bestNew
set_option maxRecDepth 20000 in
theorem ggX5_bestNewCode_X5_fail : GoodIn wsX5_bestNewCode wsX5_fail := goodIn_r _ [28, 1, 29, 30, 31, 32, 33, 34, 35, 36, 37, 38, 39, 40, 41, 42, 43, 44, 45] (by decide +kernel) (by decide +kernel)
set_option maxRecDepth 20000 in
theorem gX5_bestNewCode_X5_fail : GoodIn wsX5_bestNewCode (wsV RX5 89 RX5 yX5_fail wsX5_fail) := goodIn_app (goodIn_of _ (by decide +kernel)) ggX5_bestNewCode_X5_fail
theorem dX5_bestNewCode_0 : decode cX5_bestNewCode 0 = .ok (.aload_n 0, 1) := by decide +kernel
theorem dX5_bestNewCode_1 : decode cX5_bestNewCode 1 = .ok (.iconst 0, 1) := by decide +kernel
theorem dX5_bestNewCode_2 : decode cX5_bestNewCode 2 = .ok (.putfield 29, 3) := by decide +kernel
theorem dX5_bestNewCode_5 : decode cX5_bestNewCode 5 = .ok (.iload_n 1, 1) := by decide +kernel
theorem dX5_bestNewCode_6 : decode cX5_bestNewCode 6 = .ok (.iconst 2, 1) := by decide +kernel
theorem dX5_bestNewCode_7 : decode cX5_bestNewCode 7 = .ok (.iconst 4, 1) := by decide +kernel
theorem dX5_bestNewCode_8 : decode cX5_bestNewCode 8 = .ok (.invokestatic 32, 3) := by decide +kernel
theorem dX5_bestNewCode_11 : decode cX5_bestNewCode 11 = .ok (.ifCond .eq 11, 3) := by decide +kernel
theorem dX5_bestNewCode_14 : decode cX5_bestNewCode 14 = .ok (.aload_n 0, 1) := by decide +kernel
theorem dX5_bestNewCode_15 : decode cX5_bestNewCode 15 = .ok (.iload_n 1, 1) := by decide +kernel
theorem dX5_bestNewCode_16 : decode cX5_bestNewCode 16 = .ok (.invokevirtual 140, 3) := by decide +kernel
theorem dX5_bestNewCode_19 : decode cX5_bestNewCode 19 = .ok (.goto 8, 3) := by decide +kernel
theorem dX5_bestNewCode_22 : decode cX5_bestNewCode 22 = .ok (.aload_n 0, 1) := by decide +kernel
theorem dX5_bestNewCode_23 : decode cX5_bestNewCode 23 = .ok (.iconst 1, 1) := by decide +kernel
theorem dX5_bestNewCode_24 : decode cX5_bestNewCode 24 = .ok (.invokevirtual 89, 3) := by decide +kernel
theorem dX5_bestNewCode_27 : decode cX5_bestNewCode 27 = .ok (.ireturn, 1) := by decide +kernel
theorem dX5_meanLength_0 : decode cX5_meanLength 0 = .ok (.aload_n 0, 1) := by decide +kernel
theorem dX5_meanLength_1 : decode cX5_meanLength 1 = .ok (.iconst 0, 1) := by decide +kernel
theorem dX5_meanLength_2 : decode cX5_meanLength 2 = .ok (.putfield 29, 3) := by decide +kernel
theorem dX5_meanLength_5 : decode cX5_meanLength 5 = .ok (.iconst 0, 1) := by decide +kernel
theorem dX5_meanLength_6 : decode cX5_meanLength 6 = .ok (.istore_n 1, 1) := by decide +kernel
theorem dX5_meanLength_7 : decode cX5_meanLength 7 = .ok (.iconst 0, 1) := by decide +kernel
theorem dX5_meanLength_8 : decode cX5_meanLength 8 = .ok (.istore_n 2, 1) := by decide +kernel
theorem dX5_meanLength_9 : decode cX5_meanLength 9 = .ok (.iload_n 2, 1) := by decide +kernel
theorem dX5_meanLength_10 : decode cX5_meanLength 10 = .ok (.aload_n 0, 1) := by decide +kernel
theorem dX5_meanLength_11 : decode cX5_meanLength 11 = .ok (.getfield 36, 3) := by decide +kernel
theorem dX5_meanLength_14 : decode cX5_meanLength 14 = .ok (.if_icmp .ge 18, 3) := by decide +kernel
theorem dX5_meanLength_17 : decode cX5_meanLength 17 = .ok (.iload_n 1, 1) := by decide +kernel
theorem dX5_meanLength_18 : decode cX5_meanLength 18 = .ok (.aload_n 0, 1) := by decide +kernel
theorem dX5_meanLength_19 : decode cX5_meanLength 19 = .ok (.getfield 13, 3) := by decide +kernel
theorem dX5_meanLength_22 : decode cX5_meanLength 22 = .ok (.iload_n 2, 1) := by decide +kernel
theorem dX5_meanLength_23 : decode cX5_meanLength 23 = .ok (.iaload, 1) := by decide +kernel
theorem dX5_meanLength_24 : decode cX5_meanLength 24 = .ok (.iadd, 1) := by decide +kernel
theorem dX5_meanLength_25 : decode cX5_meanLength 25 = .ok (.istore_n 1, 1) := by decide +kernel
theorem dX5_meanLength_26 : decode cX5_meanLength 26 = .ok (.iinc 2 1, 3) := by decide +kernel
theorem dX5_meanLength_29 : decode cX5_meanLength 29 = .ok (.goto (-20), 3) := by decide +kernel
theorem dX5_meanLength_32 : decode cX5_meanLength 32 = .ok (.aload_n 0, 1) := by decide +kernel
theorem dX5_meanLength_33 : decode cX5_meanLength 33 = .ok (.getfield 36, 3) := by decide +kernel
theorem dX5_meanLength_36 : decode cX5_meanLength 36 = .ok (.ifCond .ne 7, 3) := by decide +kernel
theorem dX5_meanLength_39 : decode cX5_meanLength 39 = .ok (.dconst 0, 1) := by decide +kernel
theorem dX5_meanLength_40 : decode cX5_meanLength 40 = .ok (.goto 11, 3) := by decide +kernel
theorem dX5_meanLength_43 : decode cX5_meanLength 43 = .ok (.iload_n 1, 1) := by decide +kernel
theorem dX5_meanLength_44 : decode cX5_meanLength 44 = .ok (.i2d, 1) := by decide +kernel
theorem dX5_meanLength_45 : decode cX5_meanLength 45 = .ok (.aload_n 0, 1) := by decide +kernel
theorem dX5_meanLength_46 : decode cX5_meanLength 46 = .ok (.getfield 36, 3) := by decide +kernel
theorem dX5_meanLength_49 : decode cX5_meanLength 49 = .ok (.i2d, 1) := by decide +kernel
theorem dX5_meanLength_50 : decode cX5_meanLength 50 = .ok (.ddiv, 1) := by decide +kernel
theorem dX5_meanLength_51 : decode cX5_meanLength 51 = .ok (.dreturn, 1) := by decide +kernel
set_option maxRecDepth 20000 in
theorem ggX5_digest_X5_all : GoodIn wsX5_digest wsX5_all := goodIn_r _ [18, 3, 19, 20, 21, 22, 17, 23, 4, 13, 11, 24, 25, 26, 27, 28, 12, 93, 94, 95, 96, 97, 98, 99, 100, 101, 102, 103, 104, 105, 106, 107, 108, 109] (by decide +kernel) (by decide +kernel)
set_option maxRecDepth 20000 in
theorem gX5_digest_X5_all : GoodIn wsX5_digest (wsV RX5 98 RX5 yX5_all wsX5_all) := goodIn_app (goodIn_of _ (by decide +kernel)) ggX5_digest_X5_all
set_option maxRecDepth 20000 in
theorem ggX5_digest_X5_count : GoodIn wsX5_digest wsX5_count := goodIn_r _ [32, 3, 4, 13, 12, 20, 21, 22, 17, 23, 19, 11, 24, 25, 26, 27, 28, 33, 34, 35, 36, 93, 94, 95, 96, 97, 98, 99, 100, 101, 102, 103, 104, 105, 106, 107, 108, 109] (by decide +kernel) (by decide +kernel)
set_option maxRecDepth 20000 in
theorem gX5_digest_X5_count : GoodIn wsX5_digest (wsV RX5 59 RX5 yX5_count wsX5_count) := goodIn_app (goodIn_of _ (by decide +kernel)) ggX5_digest_X5_count
set_option maxRecDepth 20000 in
theorem ggX5_digest_X5_priceNow : GoodIn wsX5_digest wsX5_priceNow := goodIn_r _ [40, 29, 30, 31, 17, 32, 3, 4, 13, 12, 20, 21, 22, 23, 19, 11, 24, 25, 26, 27, 28, 33, 34, 35, 36, 41, 42, 43, 44, 45, 46, 47, 48, 93, 94, 95, 96, 97, 98, 99, 100, 101, 102, 103, 104, 105, 106, 107, 108, 109] (by decide +kernel) (by decide +kernel)
set_option maxRecDepth 20000 in
theorem gX5_digest_X5_priceNow : GoodIn wsX5_digest (wsV RX5 107 RX5 yX5_priceNow wsX5_priceNow) := goodIn_app (goodIn_of _ (by decide +kernel)) ggX5_digest_X5_priceNow
set_option maxRecDepth 20000 in
theorem ggX5_digest_X5_priceOfWords : GoodIn wsX5_digest wsX5_priceOfWords := goodIn_r _ [52, 4, 12, 41, 42, 43, 17, 44, 45, 46, 47, 48, 93, 94, 95, 96, 97, 98, 99, 100, 101, 102, 103, 104, 105, 106, 107, 108, 109] (by decide +kernel) (by decide +kernel)
set_option maxRecDepth 20000 in
theorem gX5_digest_X5_priceOfWords : GoodIn wsX5_digest (wsV RX5 110 RX5 yX5_priceOfWords wsX5_priceOfWords) := goodIn_app (goodIn_of _ (by decide +kernel)) ggX5_digest_X5_priceOfWords
set_option maxRecDepth 20000 in
theorem ggX5_digest_X5_until : GoodIn wsX5_digest wsX5_until := goodIn_r _ [56, 5, 57, 58, 59, 17, 60, 93, 94, 95, 96, 97, 98, 99, 100, 101, 102, 103, 104, 105, 106, 107, 108, 109] (by decide +kernel) (by decide +kernel)
set_option maxRecDepth 20000 in
theorem gX5_digest_X5_until : GoodIn wsX5_digest (wsV RX5 125 RX5 yX5_until wsX5_until) := goodIn_app (goodIn_of _ (by decide +kernel)) ggX5_digest_X5_until
set_option maxRecDepth 20000 in
theorem ggX5_digest_X5_garbled : GoodIn wsX5_digest wsX5_garbled := goodIn_r _ [64, 57, 65, 14, 15, 16, 17, 18, 3, 19, 20, 21, 22, 23, 4, 13, 11, 24, 25, 26, 27, 28, 12, 66, 67, 68, 69, 70, 71, 72, 5, 58, 59, 60, 93, 94, 95, 96, 97, 98, 99, 100, 101, 102, 103, 104, 105, 106, 107, 108, 109] (by decide +kernel) (by decide +kernel)
set_option maxRecDepth 20000 in
theorem gX5_digest_X5_garbled : GoodIn wsX5_digest (wsV RX5 128 RX5 yX5_garbled wsX5_garbled) := goodIn_app (goodIn_of _ (by decide +kernel)) ggX5_digest_X5_garbled
set_option maxRecDepth 20000 in
theorem ggX5_digest_X5_again : GoodIn wsX5_digest wsX5_again := goodIn_r _ [76, 57, 71, 14, 15, 16, 17, 18, 3, 19, 20, 21, 22, 23, 4, 13, 11, 24, 25, 26, 27, 28, 12, 66, 67, 68, 69, 70, 72, 65, 5, 58, 59, 60, 93, 94, 95, 96, 97, 98, 99, 100, 101, 102, 103, 104, 105, 106, 107, 108, 109] (by decide +kernel) (by decide +kernel)
set_option maxRecDepth 20000 in
theorem gX5_digest_X5_again : GoodIn wsX5_digest (wsV RX5 131 RX5 yX5_again wsX5_again) := goodIn_app (goodIn_of _ (by decide +kernel)) ggX5_digest_X5_again
set_option maxRecDepth 20000 in
theorem ggX5_digest_X5_wanted : GoodIn wsX5_digest wsX5_wanted := goodIn_r _ [80, 72, 14, 15, 16, 17, 18, 3, 19, 20, 21, 22, 23, 4, 13, 11, 24, 25, 26, 27, 28, 12, 66, 67, 68, 69, 70, 71, 65, 5, 58, 59, 60, 93, 94, 95, 96, 97, 98, 99, 100, 101, 102, 103, 104, 105, 106, 107, 108, 109] (by decide +kernel) (by decide +kernel)
set_option maxRecDepth 20000 in
theorem gX5_digest_X5_wanted : GoodIn wsX5_digest (wsV RX5 134 RX5 yX5_wanted wsX5_wanted) := goodIn_app (goodIn_of _ (by decide +kernel)) ggX5_digest_X5_wanted
set_option maxRecDepth 20000 in
theorem ggX5_digest_X5_useless : GoodIn wsX5_digest wsX5_useless := goodIn_r _ [84, 3, 19, 14, 15, 16, 17, 18, 20, 21, 22, 23, 4, 13, 11, 24, 25, 26, 27, 28, 12, 93, 94, 95, 96, 97, 98, 99, 100, 101, 102, 103, 104, 105, 106, 107, 108, 109] (by decide +kernel) (by decide +kernel)
set_option maxRecDepth 20000 in
theorem gX5_digest_X5_useless : GoodIn wsX5_digest (wsV RX5 137 RX5 yX5_useless wsX5_useless) := goodIn_app (goodIn_of _ (by decide +kernel)) ggX5_digest_X5_useless
set_option maxRecDepth 20000 in
theorem ggX5_digest_X5_bestNew : GoodIn wsX5_digest wsX5_bestNew := goodIn_r _ [88, 4, 24, 3, 11, 19, 25, 26, 27, 17, 28, 12, 20, 21, 22, 23, 13, 93, 94, 95, 96, 97, 98, 99, 100, 101, 102, 103, 104, 105, 106, 107, 108, 109] (by decide +kernel) (by decide +kernel)
set_option maxRecDepth 20000 in
theorem gX5_digest_X5_bestNew : GoodIn wsX5_digest (wsV RX5 140 RX5 yX5_bestNew wsX5_bestNew) := goodIn_app (goodIn_of _ (by decide +kernel)) ggX5_digest_X5_bestNew
set_option maxRecDepth 20000 in
theorem ggX5_digest_X5_uses : GoodIn wsX5_digest wsX5_uses := goodIn_r _ [92, 3, 4, 13, 20, 21, 22, 17, 23, 19, 11, 24, 25, 26, 27, 28, 12, 33, 34, 35, 36, 93, 94, 95, 96, 97, 98, 99, 100, 101, 102, 103, 104, 105, 106, 107, 108, 109] (by decide +kernel) (by decide +kernel)
set_option maxRecDepth 20000 in
theorem gX5_digest_X5_uses : GoodIn wsX5_digest (wsV RX5 104 RX5 yX5_uses wsX5_uses) := goodIn_app (goodIn_of _ (by decide +kernel)) ggX5_digest_X5_uses
set_option maxRecDepth 20000 in
theorem ggX5_digest_X5_part : GoodIn wsX5_digest wsX5_part := goodIn_r _ [23, 19, 4, 13, 11, 24, 25, 26, 27, 17, 28, 12, 93, 94, 95, 96, 97, 98, 99, 100, 101, 102, 103, 104, 105, 106, 107, 108, 109] (by decide +kernel) (by decide +kernel)
set_option maxRecDepth 20000 in
theorem gX5_digest_X5_part : GoodIn wsX5_digest (wsV RX5 46 RX5 yX5_part wsX5_part) := goodIn_app (goodIn_of _ (by decide +kernel)) ggX5_digest_X5_part
set_option maxRecDepth 20000 in
theorem ggX5_digest_X5_next : GoodIn wsX5_digest wsX5_next := goodIn_r _ [36, 13, 11, 93, 94, 95, 96, 97, 98, 99, 100, 101, 102, 103, 104, 105, 106, 107, 108, 109] (by decide +kernel) (by decide +kernel)
set_option maxRecDepth 20000 in
theorem gX5_digest_X5_next : GoodIn wsX5_digest (wsV RX5 50 RX5 yX5_next wsX5_next) := goodIn_app (goodIn_of _ (by decide +kernel)) ggX5_digest_X5_next
theorem dX5_digest_0 : decode cX5_digest 0 = .ok (.aload_n 0, 1) := by decide +kernel
theorem dX5_digest_1 : decode cX5_digest 1 = .ok (.iconst 0, 1) := by decide +kernel
theorem dX5_digest_2 : decode cX5_digest 2 = .ok (.putfield 29, 3) := by decide +kernel
theorem dX5_digest_5 : decode cX5_digest 5 = .ok (.bipush 18, 2) := by decide +kernel
theorem dX5_digest_7 : decode cX5_digest 7 = .ok (.newarray .int, 2) := by decide +kernel
theorem dX5_digest_9 : decode cX5_digest 9 = .ok (.dup, 1) := by decide +kernel
theorem dX5_digest_10 : decode cX5_digest 10 = .ok (.iconst 0, 1) := by decide +kernel
theorem dX5_digest_11 : decode cX5_digest 11 = .ok (.aload_n 0, 1) := by decide +kernel
theorem dX5_digest_12 : decode cX5_digest 12 = .ok (.getfield 36, 3) := by decide +kernel
theorem dX5_digest_15 : decode cX5_digest 15 = .ok (.iastore, 1) := by decide +kernel
theorem dX5_digest_16 : decode cX5_digest 16 = .ok (.dup, 1) := by decide +kernel
theorem dX5_digest_17 : decode cX5_digest 17 = .ok (.iconst 1, 1) := by decide +kernel
theorem dX5_digest_18 : decode cX5_digest 18 = .ok (.aload_n 0, 1) := by decide +kernel
theorem dX5_digest_19 : decode cX5_digest 19 = .ok (.getfield 39, 3) := by decide +kernel
theorem dX5_digest_22 : decode cX5_digest 22 = .ok (.iastore, 1) := by decide +kernel
theorem dX5_digest_23 : decode cX5_digest 23 = .ok (.dup, 1) := by decide +kernel
theorem dX5_digest_24 : decode cX5_digest 24 = .ok (.iconst 2, 1) := by decide +kernel
theorem dX5_digest_25 : decode cX5_digest 25 = .ok (.aload_n 0, 1) := by decide +kernel
theorem dX5_digest_26 : decode cX5_digest 26 = .ok (.invokevirtual 98, 3) := by decide +kernel
theorem dX5_digest_29 : decode cX5_digest 29 = .ok (.iastore, 1) := by decide +kernel
theorem dX5_digest_30 : decode cX5_digest 30 = .ok (.dup, 1) := by decide +kernel
theorem dX5_digest_31 : decode cX5_digest 31 = .ok (.iconst 3, 1) := by decide +kernel
theorem dX5_digest_32 : decode cX5_digest 32 = .ok (.aload_n 0, 1) := by decide +kernel
theorem dX5_digest_33 : decode cX5_digest 33 = .ok (.invokevirtual 59, 3) := by decide +kernel
theorem dX5_digest_36 : decode cX5_digest 36 = .ok (.iastore, 1) := by decide +kernel
theorem dX5_digest_37 : decode cX5_digest 37 = .ok (.dup, 1) := by decide +kernel
theorem dX5_digest_38 : decode cX5_digest 38 = .ok (.iconst 4, 1) := by decide +kernel
theorem dX5_digest_39 : decode cX5_digest 39 = .ok (.aload_n 0, 1) := by decide +kernel
theorem dX5_digest_40 : decode cX5_digest 40 = .ok (.invokevirtual 107, 3) := by decide +kernel
theorem dX5_digest_43 : decode cX5_digest 43 = .ok (.iastore, 1) := by decide +kernel
theorem dX5_digest_44 : decode cX5_digest 44 = .ok (.dup, 1) := by decide +kernel
theorem dX5_digest_45 : decode cX5_digest 45 = .ok (.iconst 5, 1) := by decide +kernel
theorem dX5_digest_46 : decode cX5_digest 46 = .ok (.aload_n 0, 1) := by decide +kernel
theorem dX5_digest_47 : decode cX5_digest 47 = .ok (.invokevirtual 110, 3) := by decide +kernel
theorem dX5_digest_50 : decode cX5_digest 50 = .ok (.aload_n 0, 1) := by decide +kernel
theorem dX5_digest_51 : decode cX5_digest 51 = .ok (.invokevirtual 107, 3) := by decide +kernel
theorem dX5_digest_54 : decode cX5_digest 54 = .ok (.isub, 1) := by decide +kernel
theorem dX5_digest_55 : decode cX5_digest 55 = .ok (.iastore, 1) := by decide +kernel
theorem dX5_digest_56 : decode cX5_digest 56 = .ok (.dup, 1) := by decide +kernel
theorem dX5_digest_57 : decode cX5_digest 57 = .ok (.bipush 6, 2) := by decide +kernel
theorem dX5_digest_59 : decode cX5_digest 59 = .ok (.aload_n 0, 1) := by decide +kernel
theorem dX5_digest_60 : decode cX5_digest 60 = .ok (.getfield 78, 3) := by decide +kernel
theorem dX5_digest_63 : decode cX5_digest 63 = .ok (.iastore, 1) := by decide +kernel
theorem dX5_digest_64 : decode cX5_digest 64 = .ok (.dup, 1) := by decide +kernel
theorem dX5_digest_65 : decode cX5_digest 65 = .ok (.bipush 7, 2) := by decide +kernel
theorem dX5_digest_67 : decode cX5_digest 67 = .ok (.aload_n 0, 1) := by decide +kernel
theorem dX5_digest_68 : decode cX5_digest 68 = .ok (.getfield 119, 3) := by decide +kernel
theorem dX5_digest_71 : decode cX5_digest 71 = .ok (.iastore, 1) := by decide +kernel
theorem dX5_digest_72 : decode cX5_digest 72 = .ok (.dup, 1) := by decide +kernel
theorem dX5_digest_73 : decode cX5_digest 73 = .ok (.bipush 8, 2) := by decide +kernel
theorem dX5_digest_75 : decode cX5_digest 75 = .ok (.aload_n 0, 1) := by decide +kernel
theorem dX5_digest_76 : decode cX5_digest 76 = .ok (.getfield 122, 3) := by decide +kernel
theorem dX5_digest_79 : decode cX5_digest 79 = .ok (.iastore, 1) := by decide +kernel
theorem dX5_digest_80 : decode cX5_digest 80 = .ok (.dup, 1) := by decide +kernel
theorem dX5_digest_81 : decode cX5_digest 81 = .ok (.bipush 9, 2) := by decide +kernel
theorem dX5_digest_83 : decode cX5_digest 83 = .ok (.aload_n 0, 1) := by decide +kernel
theorem dX5_digest_84 : decode cX5_digest 84 = .ok (.getfield 113, 3) := by decide +kernel
theorem dX5_digest_87 : decode cX5_digest 87 = .ok (.iastore, 1) := by decide +kernel
theorem dX5_digest_88 : decode cX5_digest 88 = .ok (.dup, 1) := by decide +kernel
theorem dX5_digest_89 : decode cX5_digest 89 = .ok (.bipush 10, 2) := by decide +kernel
theorem dX5_digest_91 : decode cX5_digest 91 = .ok (.aload_n 0, 1) := by decide +kernel
theorem dX5_digest_92 : decode cX5_digest 92 = .ok (.invokevirtual 125, 3) := by decide +kernel
theorem dX5_digest_95 : decode cX5_digest 95 = .ok (.iastore, 1) := by decide +kernel
theorem dX5_digest_96 : decode cX5_digest 96 = .ok (.dup, 1) := by decide +kernel
theorem dX5_digest_97 : decode cX5_digest 97 = .ok (.bipush 11, 2) := by decide +kernel
theorem dX5_digest_99 : decode cX5_digest 99 = .ok (.aload_n 0, 1) := by decide +kernel
theorem dX5_digest_100 : decode cX5_digest 100 = .ok (.invokevirtual 128, 3) := by decide +kernel
theorem dX5_digest_103 : decode cX5_digest 103 = .ok (.iastore, 1) := by decide +kernel
theorem dX5_digest_104 : decode cX5_digest 104 = .ok (.dup, 1) := by decide +kernel
theorem dX5_digest_105 : decode cX5_digest 105 = .ok (.bipush 12, 2) := by decide +kernel
theorem dX5_digest_107 : decode cX5_digest 107 = .ok (.aload_n 0, 1) := by decide +kernel
theorem dX5_digest_108 : decode cX5_digest 108 = .ok (.invokevirtual 131, 3) := by decide +kernel
theorem dX5_digest_111 : decode cX5_digest 111 = .ok (.iastore, 1) := by decide +kernel
theorem dX5_digest_112 : decode cX5_digest 112 = .ok (.dup, 1) := by decide +kernel
theorem dX5_digest_113 : decode cX5_digest 113 = .ok (.bipush 13, 2) := by decide +kernel
theorem dX5_digest_115 : decode cX5_digest 115 = .ok (.aload_n 0, 1) := by decide +kernel
theorem dX5_digest_116 : decode cX5_digest 116 = .ok (.invokevirtual 134, 3) := by decide +kernel
theorem dX5_digest_119 : decode cX5_digest 119 = .ok (.iastore, 1) := by decide +kernel
theorem dX5_digest_120 : decode cX5_digest 120 = .ok (.dup, 1) := by decide +kernel
theorem dX5_digest_121 : decode cX5_digest 121 = .ok (.bipush 14, 2) := by decide +kernel
theorem dX5_digest_123 : decode cX5_digest 123 = .ok (.aload_n 0, 1) := by decide +kernel
theorem dX5_digest_124 : decode cX5_digest 124 = .ok (.invokevirtual 137, 3) := by decide +kernel
theorem dX5_digest_127 : decode cX5_digest 127 = .ok (.iastore, 1) := by decide +kernel
theorem dX5_digest_128 : decode cX5_digest 128 = .ok (.dup, 1) := by decide +kernel
theorem dX5_digest_129 : decode cX5_digest 129 = .ok (.bipush 15, 2) := by decide +kernel
theorem dX5_digest_131 : decode cX5_digest 131 = .ok (.aload_n 0, 1) := by decide +kernel
theorem dX5_digest_132 : decode cX5_digest 132 = .ok (.iconst 2, 1) := by decide +kernel
theorem dX5_digest_133 : decode cX5_digest 133 = .ok (.invokevirtual 140, 3) := by decide +kernel
theorem dX5_digest_136 : decode cX5_digest 136 = .ok (.iastore, 1) := by decide +kernel
theorem dX5_digest_137 : decode cX5_digest 137 = .ok (.dup, 1) := by decide +kernel
theorem dX5_digest_138 : decode cX5_digest 138 = .ok (.bipush 16, 2) := by decide +kernel
theorem dX5_digest_140 : decode cX5_digest 140 = .ok (.aload_n 0, 1) := by decide +kernel
theorem dX5_digest_141 : decode cX5_digest 141 = .ok (.iconst 3, 1) := by decide +kernel
theorem dX5_digest_142 : decode cX5_digest 142 = .ok (.invokevirtual 140, 3) := by decide +kernel
theorem dX5_digest_145 : decode cX5_digest 145 = .ok (.iastore, 1) := by decide +kernel
theorem dX5_digest_146 : decode cX5_digest 146 = .ok (.dup, 1) := by decide +kernel
theorem dX5_digest_147 : decode cX5_digest 147 = .ok (.bipush 17, 2) := by decide +kernel
theorem dX5_digest_149 : decode cX5_digest 149 = .ok (.aload_n 0, 1) := by decide +kernel
theorem dX5_digest_150 : decode cX5_digest 150 = .ok (.iconst 4, 1) := by decide +kernel
theorem dX5_digest_151 : decode cX5_digest 151 = .ok (.invokevirtual 140, 3) := by decide +kernel
theorem dX5_digest_154 : decode cX5_digest 154 = .ok (.iastore, 1) := by decide +kernel
theorem dX5_digest_155 : decode cX5_digest 155 = .ok (.astore_n 1, 1) := by decide +kernel
theorem dX5_digest_156 : decode cX5_digest 156 = .ok (.ldc2_w 143, 3) := by decide +kernel
theorem dX5_digest_159 : decode cX5_digest 159 = .ok (.lstore_n 2, 1) := by decide +kernel
theorem dX5_digest_160 : decode cX5_digest 160 = .ok (.aload_n 1, 1) := by decide +kernel
theorem dX5_digest_161 : decode cX5_digest 161 = .ok (.astore 4, 2) := by decide +kernel
theorem dX5_digest_163 : decode cX5_digest 163 = .ok (.aload 4, 2) := by decide +kernel
theorem dX5_digest_165 : decode cX5_digest 165 = .ok (.arraylength, 1) := by decide +kernel
theorem dX5_digest_166 : decode cX5_digest 166 = .ok (.istore 5, 2) := by decide +kernel
theorem dX5_digest_168 : decode cX5_digest 168 = .ok (.iconst 0, 1) := by decide +kernel
theorem dX5_digest_169 : decode cX5_digest 169 = .ok (.istore 6, 2) := by decide +kernel
theorem dX5_digest_171 : decode cX5_digest 171 = .ok (.iload 6, 2) := by decide +kernel
theorem dX5_digest_173 : decode cX5_digest 173 = .ok (.iload 5, 2) := by decide +kernel
theorem dX5_digest_175 : decode cX5_digest 175 = .ok (.if_icmp .ge 26, 3) := by decide +kernel
theorem dX5_digest_178 : decode cX5_digest 178 = .ok (.aload 4, 2) := by decide +kernel
theorem dX5_digest_180 : decode cX5_digest 180 = .ok (.iload 6, 2) := by decide +kernel
theorem dX5_digest_182 : decode cX5_digest 182 = .ok (.iaload, 1) := by decide +kernel
theorem dX5_digest_183 : decode cX5_digest 183 = .ok (.istore 7, 2) := by decide +kernel
theorem dX5_digest_185 : decode cX5_digest 185 = .ok (.lload_n 2, 1) := by decide +kernel
theorem dX5_digest_186 : decode cX5_digest 186 = .ok (.ldc2_w 145, 3) := by decide +kernel
theorem dX5_digest_189 : decode cX5_digest 189 = .ok (.lmul, 1) := by decide +kernel
theorem dX5_digest_190 : decode cX5_digest 190 = .ok (.iload 7, 2) := by decide +kernel
theorem dX5_digest_192 : decode cX5_digest 192 = .ok (.i2l, 1) := by decide +kernel
theorem dX5_digest_193 : decode cX5_digest 193 = .ok (.ladd, 1) := by decide +kernel
theorem dX5_digest_194 : decode cX5_digest 194 = .ok (.lstore_n 2, 1) := by decide +kernel
theorem dX5_digest_195 : decode cX5_digest 195 = .ok (.iinc 6 1, 3) := by decide +kernel
theorem dX5_digest_198 : decode cX5_digest 198 = .ok (.goto (-27), 3) := by decide +kernel
theorem dX5_digest_201 : decode cX5_digest 201 = .ok (.iconst 0, 1) := by decide +kernel
theorem dX5_digest_202 : decode cX5_digest 202 = .ok (.istore 4, 2) := by decide +kernel
theorem dX5_digest_204 : decode cX5_digest 204 = .ok (.iload 4, 2) := by decide +kernel
theorem dX5_digest_206 : decode cX5_digest 206 = .ok (.aload_n 0, 1) := by decide +kernel
theorem dX5_digest_207 : decode cX5_digest 207 = .ok (.getfield 36, 3) := by decide +kernel
theorem dX5_digest_210 : decode cX5_digest 210 = .ok (.if_icmp .ge 38, 3) := by decide +kernel
theorem dX5_digest_213 : decode cX5_digest 213 = .ok (.lload_n 2, 1) := by decide +kernel
theorem dX5_digest_214 : decode cX5_digest 214 = .ok (.ldc2_w 145, 3) := by decide +kernel
theorem dX5_digest_217 : decode cX5_digest 217 = .ok (.lmul, 1) := by decide +kernel
theorem dX5_digest_218 : decode cX5_digest 218 = .ok (.aload_n 0, 1) := by decide +kernel
theorem dX5_digest_219 : decode cX5_digest 219 = .ok (.getfield 13, 3) := by decide +kernel
theorem dX5_digest_222 : decode cX5_digest 222 = .ok (.iload 4, 2) := by decide +kernel
theorem dX5_digest_224 : decode cX5_digest 224 = .ok (.iaload, 1) := by decide +kernel
theorem dX5_digest_225 : decode cX5_digest 225 = .ok (.i2l, 1) := by decide +kernel
theorem dX5_digest_226 : decode cX5_digest 226 = .ok (.ladd, 1) := by decide +kernel
theorem dX5_digest_227 : decode cX5_digest 227 = .ok (.lstore_n 2, 1) := by decide +kernel
theorem dX5_digest_228 : decode cX5_digest 228 = .ok (.lload_n 2, 1) := by decide +kernel
theorem dX5_digest_229 : decode cX5_digest 229 = .ok (.ldc2_w 145, 3) := by decide +kernel
theorem dX5_digest_232 : decode cX5_digest 232 = .ok (.lmul, 1) := by decide +kernel
theorem dX5_digest_233 : decode cX5_digest 233 = .ok (.aload_n 0, 1) := by decide +kernel
theorem dX5_digest_234 : decode cX5_digest 234 = .ok (.iload 4, 2) := by decide +kernel
theorem dX5_digest_236 : decode cX5_digest 236 = .ok (.invokevirtual 104, 3) := by decide +kernel
theorem dX5_digest_239 : decode cX5_digest 239 = .ok (.i2l, 1) := by decide +kernel
theorem dX5_digest_240 : decode cX5_digest 240 = .ok (.ladd, 1) := by decide +kernel
theorem dX5_digest_241 : decode cX5_digest 241 = .ok (.lstore_n 2, 1) := by decide +kernel
theorem dX5_digest_242 : decode cX5_digest 242 = .ok (.iinc 4 1, 3) := by decide +kernel
theorem dX5_digest_245 : decode cX5_digest 245 = .ok (.goto (-41), 3) := by decide +kernel
theorem dX5_digest_248 : decode cX5_digest 248 = .ok (.iconst 0, 1) := by decide +kernel
theorem dX5_digest_249 : decode cX5_digest 249 = .ok (.istore 4, 2) := by decide +kernel
theorem dX5_digest_251 : decode cX5_digest 251 = .ok (.iload 4, 2) := by decide +kernel
theorem dX5_digest_253 : decode cX5_digest 253 = .ok (.aload_n 0, 1) := by decide +kernel
theorem dX5_digest_254 : decode cX5_digest 254 = .ok (.getfield 39, 3) := by decide +kernel
theorem dX5_digest_257 : decode cX5_digest 257 = .ok (.if_icmp .ge 24, 3) := by decide +kernel
theorem dX5_digest_260 : decode cX5_digest 260 = .ok (.lload_n 2, 1) := by decide +kernel
theorem dX5_digest_261 : decode cX5_digest 261 = .ok (.ldc2_w 145, 3) := by decide +kernel
theorem dX5_digest_264 : decode cX5_digest 264 = .ok (.lmul, 1) := by decide +kernel
theorem dX5_digest_265 : decode cX5_digest 265 = .ok (.aload_n 0, 1) := by decide +kernel
theorem dX5_digest_266 : decode cX5_digest 266 = .ok (.getfield 16, 3) := by decide +kernel
theorem dX5_digest_269 : decode cX5_digest 269 = .ok (.iload 4, 2) := by decide +kernel
theorem dX5_digest_271 : decode cX5_digest 271 = .ok (.iaload, 1) := by decide +kernel
theorem dX5_digest_272 : decode cX5_digest 272 = .ok (.i2l, 1) := by decide +kernel
theorem dX5_digest_273 : decode cX5_digest 273 = .ok (.ladd, 1) := by decide +kernel
theorem dX5_digest_274 : decode cX5_digest 274 = .ok (.lstore_n 2, 1) := by decide +kernel
theorem dX5_digest_275 : decode cX5_digest 275 = .ok (.iinc 4 1, 3) := by decide +kernel
theorem dX5_digest_278 : decode cX5_digest 278 = .ok (.goto (-27), 3) := by decide +kernel
theorem dX5_digest_281 : decode cX5_digest 281 = .ok (.aload_n 0, 1) := by decide +kernel
theorem dX5_digest_282 : decode cX5_digest 282 = .ok (.aload_n 0, 1) := by decide +kernel
theorem dX5_digest_283 : decode cX5_digest 283 = .ok (.getfield 36, 3) := by decide +kernel
theorem dX5_digest_286 : decode cX5_digest 286 = .ok (.iconst (-1), 1) := by decide +kernel
theorem dX5_digest_287 : decode cX5_digest 287 = .ok (.invokevirtual 46, 3) := by decide +kernel
theorem dX5_digest_290 : decode cX5_digest 290 = .ok (.iconst 0, 1) := by decide +kernel
theorem dX5_digest_291 : decode cX5_digest 291 = .ok (.istore 4, 2) := by decide +kernel
theorem dX5_digest_293 : decode cX5_digest 293 = .ok (.iload 4, 2) := by decide +kernel
theorem dX5_digest_295 : decode cX5_digest 295 = .ok (.aload_n 0, 1) := by decide +kernel
theorem dX5_digest_296 : decode cX5_digest 296 = .ok (.getfield 39, 3) := by decide +kernel
theorem dX5_digest_299 : decode cX5_digest 299 = .ok (.if_icmp .ge 39, 3) := by decide +kernel
theorem dX5_digest_302 : decode cX5_digest 302 = .ok (.lload_n 2, 1) := by decide +kernel
theorem dX5_digest_303 : decode cX5_digest 303 = .ok (.ldc2_w 145, 3) := by decide +kernel
theorem dX5_digest_306 : decode cX5_digest 306 = .ok (.lmul, 1) := by decide +kernel
theorem dX5_digest_307 : decode cX5_digest 307 = .ok (.aload_n 0, 1) := by decide +kernel
theorem dX5_digest_308 : decode cX5_digest 308 = .ok (.getfield 26, 3) := by decide +kernel
theorem dX5_digest_311 : decode cX5_digest 311 = .ok (.iload 4, 2) := by decide +kernel
theorem dX5_digest_313 : decode cX5_digest 313 = .ok (.iaload, 1) := by decide +kernel
theorem dX5_digest_314 : decode cX5_digest 314 = .ok (.i2l, 1) := by decide +kernel
theorem dX5_digest_315 : decode cX5_digest 315 = .ok (.ladd, 1) := by decide +kernel
theorem dX5_digest_316 : decode cX5_digest 316 = .ok (.lstore_n 2, 1) := by decide +kernel
theorem dX5_digest_317 : decode cX5_digest 317 = .ok (.lload_n 2, 1) := by decide +kernel
theorem dX5_digest_318 : decode cX5_digest 318 = .ok (.ldc2_w 145, 3) := by decide +kernel
theorem dX5_digest_321 : decode cX5_digest 321 = .ok (.lmul, 1) := by decide +kernel
theorem dX5_digest_322 : decode cX5_digest 322 = .ok (.iload 4, 2) := by decide +kernel
theorem dX5_digest_324 : decode cX5_digest 324 = .ok (.i2l, 1) := by decide +kernel
theorem dX5_digest_325 : decode cX5_digest 325 = .ok (.ladd, 1) := by decide +kernel
theorem dX5_digest_326 : decode cX5_digest 326 = .ok (.lstore_n 2, 1) := by decide +kernel
theorem dX5_digest_327 : decode cX5_digest 327 = .ok (.aload_n 0, 1) := by decide +kernel
theorem dX5_digest_328 : decode cX5_digest 328 = .ok (.iload 4, 2) := by decide +kernel
theorem dX5_digest_330 : decode cX5_digest 330 = .ok (.invokevirtual 50, 3) := by decide +kernel
theorem dX5_digest_333 : decode cX5_digest 333 = .ok (.istore 4, 2) := by decide +kernel
theorem dX5_digest_335 : decode cX5_digest 335 = .ok (.goto (-42), 3) := by decide +kernel
theorem dX5_digest_338 : decode cX5_digest 338 = .ok (.lload_n 2, 1) := by decide +kernel
theorem dX5_digest_339 : decode cX5_digest 339 = .ok (.lreturn, 1) := by decide +kernel
theorem dJ9_max_7cf53_0 : decode cJ9_max_7cf53 0 = .ok (.iload_n 0, 1) := by decide +kernel
theorem dJ9_max_7cf53_1 : decode cJ9_max_7cf53 1 = .ok (.iload_n 1, 1) := by decide +kernel
theorem dJ9_max_7cf53_2 : decode cJ9_max_7cf53 2 = .ok (.if_icmp .lt 7, 3) := by decide +kernel
theorem dJ9_max_7cf53_5 : decode cJ9_max_7cf53 5 = .ok (.iload_n 0, 1) := by decide +kernel
theorem dJ9_max_7cf53_6 : decode cJ9_max_7cf53 6 = .ok (.goto 4, 3) := by decide +kernel
theorem dJ9_max_7cf53_9 : decode cJ9_max_7cf53 9 = .ok (.iload_n 1, 1) := by decide +kernel
theorem dJ9_max_7cf53_10 : decode cJ9_max_7cf53 10 = .ok (.ireturn, 1) := by decide +kernel
theorem dJ9_min_7cf53_0 : decode cJ9_min_7cf53 0 = .ok (.iload_n 0, 1) := by decide +kernel
theorem dJ9_min_7cf53_1 : decode cJ9_min_7cf53 1 = .ok (.iload_n 1, 1) := by decide +kernel
theorem dJ9_min_7cf53_2 : decode cJ9_min_7cf53 2 = .ok (.if_icmp .gt 7, 3) := by decide +kernel
theorem dJ9_min_7cf53_5 : decode cJ9_min_7cf53 5 = .ok (.iload_n 0, 1) := by decide +kernel
theorem dJ9_min_7cf53_6 : decode cJ9_min_7cf53 6 = .ok (.goto 4, 3) := by decide +kernel
theorem dJ9_min_7cf53_9 : decode cJ9_min_7cf53 9 = .ok (.iload_n 1, 1) := by decide +kernel
theorem dJ9_min_7cf53_10 : decode cJ9_min_7cf53 10 = .ok (.ireturn, 1) := by decide +kernel
set_option maxRecDepth 20000 in
theorem ggL_addCode_X4_addCode : GoodIn wsL_addCode wsX4_addCode := goodIn_ca (goodIn_ca (goodIn_r _ [7, 8, 9, 10, 11, 12, 13, 14, 6, 15, 16, 17, 18, 19, 20, 21, 22, 23, 24, 25, 26, 27, 28, 29, 30, 31, 32, 33, 34, 35, 36, 37, 38, 39, 40, 41, 42, 43, 44, 45, 46, 47, 48, 49, 50, 51, 52, 53, 54, 55, 56, 57, 58, 59, 60, 61, 62, 63, 64, 65, 66, 67, 68, 69, 70, 71, 72, 73, 74, 75, 76, 77, 78, 79, 80, 81, 82, 83, 84, 85, 86, 87, 88, 89, 90, 91, 92, 93, 94, 95, 96, 97, 98, 99, 100, 101, 102, 103, 104, 105, 106, 107, 108, 109, 110, 111, 112, 113, 114, 115, 116, 117, 118, 119, 120, 121, 122, 123, 124, 125, 126, 127, 128, 129, 130, 131, 132, 133] (by decide +kernel) (by decide +kernel)) (goodIn_sub (fun _ h => List.mem_cons_of_mem _ (List.mem_append_left _ (List.mem_append_right _ h))) (by decide +kernel))) (goodIn_sub (fun _ h => List.mem_cons_of_mem _ (List.mem_append_right _ h)) (by decide +kernel))
set_option maxRecDepth 20000 in
theorem gL_addCode_X4_addCode : GoodIn wsL_addCode (wsV RL 7 RX4 yX4_addCode wsX4_addCode) := goodIn_app (goodIn_of _ (by decide +kernel)) ggL_addCode_X4_addCode
end
section
/-! base rows of this claim: numbers as naturals, properties as 0 and 1, two forms of contract (RO: nothing is written; MU: the world's cells alone are written, none is made) -/
noncomputable def z1 (P : Prop) : Int32 := @ite _ P (Classical.propDecidable P) 1 0
theorem z1_t {P : Prop} (h : P) : z1 P = 1 := by unfold z1; exact if_pos h
theorem z1_f {P : Prop} (h : ¬ P) : z1 P = 0 := by unfold z1; exact if_neg h
theorem z1_c {P Q : Prop} (h : P ↔ Q) : z1 P = z1 Q := by rw [propext h]
theorem z1_nar (P : Prop) : narrow .boolean (.int (z1 P)) = .int (z1 P) := by
  by_cases h : P
  · rw [z1_t h]; rfl
  · rw [z1_f h]; rfl
theorem z1_1 {P : Prop} (h : P) : nI 1 = z1 P := (z1_t h).symm
theorem z1_0 {P : Prop} (h : ¬ P) : nI 0 = z1 P := (z1_f h).symm
theorem z1_p {P : Prop} (h : z1 P = 0) : ¬ P := fun q => by rw [z1_t q] at h; exact absurd h (by decide)
theorem z1_n {P : Prop} (h : ¬ z1 P = 0) : P := Classical.byContradiction fun q => h (z1_f q)
def nA (g : Nat → Nat) : Nat → Int32 := fun j => nI (g j)
def updN (g : Nat → Nat) (k x : Nat) : Nat → Nat := fun j => if j = k then x else g j
theorem upd_nA (g : Nat → Nat) (k x : Nat) : upd (nA g) k (nI x) = nA (updN g k x) := by
  funext j
  unfold upd nA updN
  by_cases h : j = k
  · rw [if_pos h, if_pos h]
  · rw [if_neg h, if_neg h]
theorem cpy_nA (f g : Nat → Nat) (a b n : Nat) : va_cpy (nA f) (nA g) a b n = nA (va_cpy f g a b n) := by
  funext j
  unfold va_cpy nA
  by_cases h : b ≤ j ∧ j < b + n
  · simp only [if_pos h]
  · simp only [if_neg h]
theorem updN_s (g : Nat → Nat) (k x : Nat) : updN g k x k = x := if_pos rfl
theorem updN_n (g : Nat → Nat) {k x j : Nat} (h : j ≠ k) : updN g k x j = g j := if_neg h
theorem nI_in2 {a : Nat} (h : a < 2 ^ 31) : (nI a).toNatClampNeg = a := nI_clamp h
theorem ci_m1 : Int32.ofInt (-1) = -1 := by decide
theorem ci_0 : Int32.ofInt 0 = nI 0 := by decide
theorem ci_1 : Int32.ofInt 1 = nI 1 := by decide
theorem ci_2 : Int32.ofInt 2 = nI 2 := by decide
theorem ci_3 : Int32.ofInt 3 = nI 3 := by decide
theorem ci_4 : Int32.ofInt 4 = nI 4 := by decide
theorem ci_5 : Int32.ofInt 5 = nI 5 := by decide
theorem bp_of : ∀ n : Nat, n < 128 → (Int8.ofInt (n : Int)).toInt32 = nI n := by decide +kernel
theorem z_inc (i k : Nat) : nI i + Int32.ofInt (k : Int) = nI (i + k) := by
  rw [← nI_add]; rfl
theorem z_inc1 (i : Nat) : nI i + Int32.ofInt 1 = nI (i + 1) := nI_1 i
theorem z_inc5 (i : Nat) : nI i + Int32.ofInt 5 = nI (i + 5) := by rw [← nI_add]; rfl
theorem z_dec1 (i : Nat) : nI (i + 1) + Int32.ofInt (-1) = nI i := pk_m1 i
theorem z_max0 {m : Nat} (h : m < 2 ^ 31) : (if nI 0 < nI m then nI m else nI 0) = nI m := by
  by_cases q : nI 0 < nI m
  · exact if_pos q
  · rw [if_neg q]
    have h2 : ¬ 0 < m := fun z => q ((nI_ltI (by decide) h).mpr z)
    rw [show m = 0 by omega]
theorem z_min24 {m : Nat} (h : m ≤ 24) : (if nI 24 < nI m then nI 24 else nI m) = nI m :=
  if_neg (fun q => by have := (nI_ltI (by decide) (by omega)).mp q; omega)
theorem z_p0 {w : Nat} (h : w < 2 ^ 31) (q : nI w - nI 1 < 0) : w = 0 := by
  rcases Nat.eq_zero_or_pos w with z | z
  · exact z
  · rw [pk_sub (by omega : 1 ≤ w)] at q
    exact absurd q (nI_pos (by omega))
theorem z_p1 {w : Nat} (q : ¬ nI w - nI 1 < 0) : ∃ u, w = u + 1 := by
  rcases w with _ | u
  · exact absurd (by decide) q
  · exact ⟨u, rfl⟩
theorem z_pred (u : Nat) : nI (u + 1) - nI 1 = nI u := by
  rw [pk_sub (by omega : 1 ≤ u + 1)]; rfl
theorem z_decR (u : Nat) : nI u + Int32.ofInt (-1) = nI u - nI 1 := by
  show nI u + (-1) = nI u - nI 1
  rw [Int32.sub_eq_add_neg]; rfl
theorem va_P_nil (D : va_G) (cl : List vw_C) (H : Heap) : va_P D cl [] H := fun k q h => by simp at h
theorem z_has_t {x : Int32} {k : Nat} (hk : k < 2 ^ 31) (h1 : ¬ x < 0) (h2 : ¬ nI k ≤ x) : ∃ j : Nat, j < k ∧ x = nI j := by
  rcases pk_ix x hk with h | h | h
  · exact absurd h h1
  · exact absurd h h2
  · exact h
theorem z_has_n {x : Int32} {k : Nat} (hk : k < 2 ^ 31) (h : x < 0) : ¬ ∃ j : Nat, j < k ∧ x = nI j := by
  rintro ⟨j, hj, rfl⟩
  exact nI_pos (Nat.lt_trans hj hk) h
theorem z_has_g {x : Int32} {k : Nat} (hk : k < 2 ^ 31) (h : nI k ≤ x) : ¬ ∃ j : Nat, j < k ∧ x = nI j := by
  rintro ⟨j, hj, rfl⟩
  exact nI_ge hj hk h
theorem updN_2 (g : Nat → Nat) (k a b : Nat) : updN (updN g k a) k b = updN g k b := by
  funext j
  unfold updN
  by_cases h : j = k
  · rw [if_pos h, if_pos h]
  · rw [if_neg h, if_neg h, if_neg h]
def clen (x3 x4 : Int32) : Nat := if x4 = -1 then (if x3 = -1 then 2 else 3) else 4
def wc (x : Nat) : Nat := if 8 ≤ x then 2 else 1
def sN (f : Nat → Nat) : Nat → Nat
  | 0 => 0
  | n + 1 => sN f n + f n
/-- how many of the first have a property -/
noncomputable def cN (P : Nat → Prop) : Nat → Nat
  | 0 => 0
  | n + 1 => cN P n + @ite _ (P n) (Classical.propDecidable _) 1 0
theorem cN_t {P : Nat → Prop} {n : Nat} (h : P n) : cN P (n + 1) = cN P n + 1 := by
  show cN P n + @ite _ (P n) (Classical.propDecidable _) 1 0 = _
  rw [if_pos h]
theorem cN_f {P : Nat → Prop} {n : Nat} (h : ¬ P n) : cN P (n + 1) = cN P n := by
  show cN P n + @ite _ (P n) (Classical.propDecidable _) 1 0 = _
  rw [if_neg h]; rfl
theorem cN_le (P : Nat → Prop) : ∀ n, cN P n ≤ n := by
  intro n
  induction n with
  | zero => exact Nat.le_refl _
  | succ n ih =>
    by_cases h : P n
    · rw [cN_t h]; omega
    · rw [cN_f h]; omega
/-- the group that is the count n is garbled -/
def gB (q n : Nat) : Prop := q ≤ (n * 7 + n / 10) % 10
def zin (w : va_W) : Nat → Prop := fun q => q ∈ w.map Prod.fst
def zput : va_W → List Nat → va_W → va_W
  | ws, i :: is, e :: es => zput (ws.set i e) is es
  | ws, [], _ => ws
  | ws, _ :: _, [] => ws
theorem zput_get : ∀ (is : List Nat) (es ws : va_W), is.length = es.length → va_nd is = true → (∀ i ∈ is, i < ws.length) → ∀ (k : Nat) (q : Nat × va_E), (zput ws is es)[k]? = some q → (∃ j : Nat, is[j]? = some k ∧ es[j]? = some q) ∨ (k ∉ is ∧ ws[k]? = some q) := by
  intro is
  induction is with
  | nil => intro es ws _ _ _ k q h; exact Or.inr ⟨List.not_mem_nil, by cases es <;> exact h⟩
  | cons i is ih =>
    intro es ws hl hn hlt k q h
    cases es with
    | nil => simp at hl
    | cons e es =>
      simp only [va_nd, Bool.and_eq_true, decide_eq_true_eq] at hn
      have hil : i < ws.length := hlt i List.mem_cons_self
      rcases ih es (ws.set i e) (by simpa using hl) hn.2 (fun j hj => by rw [List.length_set]; exact hlt j (List.mem_cons_of_mem _ hj)) k q h with ⟨j, h1, h2⟩ | ⟨h1, h2⟩
      · exact Or.inl ⟨j + 1, h1, h2⟩
      · by_cases hk : k = i
        · subst hk
          rw [List.getElem?_set_self hil] at h2
          exact Or.inl ⟨0, rfl, h2⟩
        · rw [List.getElem?_set_ne (Ne.symm hk)] at h2
          exact Or.inr ⟨fun hm => (List.mem_cons.mp hm).elim hk h1, h2⟩
/-- behind a call that writes its own world's cells alone -/
theorem zput_P {D : va_G} {cl : List vw_C} {A0 : Nat → Prop} {ws wc w1 : va_W} {H H1 : Heap} (hP : va_P D cl ws H) (hD : va_D A0 ws) (is : List Nat) (hn : va_nd is = true) (hs : is.map (fun i => ws[i]?) = wc.map some) (hw : w1.map Prod.fst = wc.map Prod.fst) (hP1 : va_P D cl w1 H1)
    (hk : ∀ q : Nat, q < H.size → ¬ zin wc q → H1[q]? = H[q]?) : va_P D cl (zput ws is w1) H1 ∧ va_D A0 (zput ws is w1) := by
  have hlen : is.length = w1.length := by
    have h1 := congrArg List.length hs
    have h2 := congrArg List.length hw
    simp at h1 h2
    omega
  have hat : ∀ (j k : Nat), is[j]? = some k → ∃ q, wc[j]? = some q ∧ ws[k]? = some q := by
    intro j k hj
    have h1 : (is.map (fun i => ws[i]?))[j]? = some (ws[k]?) := by rw [List.getElem?_map, hj]; rfl
    rw [hs, List.getElem?_map] at h1
    cases hq : wc[j]? with
    | none => rw [hq] at h1; cases h1
    | some q => rw [hq] at h1; exact ⟨q, rfl, (Option.some.inj h1).symm⟩
  have hlt : ∀ i ∈ is, i < ws.length := by
    intro i hi
    obtain ⟨j, hj⟩ := List.getElem?_of_mem hi
    obtain ⟨q, -, h2⟩ := hat j i hj
    exact (List.getElem?_eq_some_iff.mp h2).1
  have key := zput_get is w1 ws hlen hn hlt
  have same : ∀ (k : Nat) (q : Nat × va_E), (zput ws is w1)[k]? = some q → ∃ q0, ws[k]? = some q0 ∧ q0.1 = q.1 := by
    intro k q h
    rcases key k q h with ⟨j, h1, h2⟩ | ⟨-, h2⟩
    · obtain ⟨q0, h3, h4⟩ := hat j k h1
      refine ⟨q0, h4, ?_⟩
      have h5 : (w1.map Prod.fst)[j]? = some q.1 := by rw [List.getElem?_map, h2]; rfl
      rw [hw, List.getElem?_map, h3] at h5
      exact Option.some.inj h5
    · exact ⟨q, h2, rfl⟩
  refine ⟨fun k q h => ?_, fun i j x y hi hj hxy => ?_, fun k q h => ?_⟩
  · rcases key k q h with ⟨j, h1, h2⟩ | ⟨h1, h2⟩
    · exact hP1 j q h2
    · refine (hP k q h2).kept (hk q.1 (hP k q h2).lt ?_)
      intro hz
      obtain ⟨q0, hm, he⟩ := List.mem_map.mp hz
      obtain ⟨j, hj⟩ := List.getElem?_of_mem hm
      have h3 : (is.map (fun i => ws[i]?))[j]? = some (some q0) := by rw [hs, List.getElem?_map, hj]; rfl
      rw [List.getElem?_map] at h3
      cases hi : is[j]? with
      | none => rw [hi] at h3; cases h3
      | some i =>
        rw [hi] at h3
        have h4 : ws[i]? = some q0 := Option.some.inj h3
        have := hD.1 i k q0 q h4 h2 he
        subst this
        exact h1 (List.mem_of_getElem? hi)
  · obtain ⟨x0, h1, h2⟩ := same i x hi
    obtain ⟨y0, h3, h4⟩ := same j y hj
    exact hD.1 i j x0 y0 h1 h3 (h2.trans (hxy.trans h4.symm))
  · obtain ⟨q0, h1, h2⟩ := same k q h
    rw [← h2]
    exact hD.2 k q0 h1
def zNest1 : Cond := .methodLinkNest RX4 35 yX3_init RX4
def zNest2 : Cond := .methodLinkNest RX3 32 yX4_isGarbled RX4
def zIAE : String := "java/lang/IllegalArgumentException"
def zISE : String := "java/lang/IllegalStateException"
def zIOB : String := "java/lang/IndexOutOfBoundsException"
def zStrs : List (Nat × String) := [(50, "first and second are 0 to 9"), (58, "third and fourth are -1 or 0 to 9"), (60, "no fourth word without a third one"), (68, "the code book is full"), (75, "another code stands for these words"), (93, "no such code"), (104, "a type is 0 to 9"), (107, "the message is full"), (112, "the message has no words"), (124, "no such word"), (128, "no such group"), (154, "a quality is 1 to 9"), (192, "a code stands for 2 to 4 words")]
/-- what the tables say beside the words that are kept: nest mates, texts, casts -/
def zE (U : State) : Prop := va_Nw zNest1 U ∧ va_Nw zNest2 U ∧ (∀ q ∈ zStrs, ∃ sa : Nat, vk_R RX4 q.1 q.2 sa U) ∧ (∀ E ∈ [zIAE, zISE, zIOB], va_Nw (.castable E E) U) ∧ va_Nc zISE zIAE U
theorem zE.warm {s U : State} (hW : s.WarmedH U.vm) (h : zE s) : zE U := by
  obtain ⟨h1, h2, h3, h4, h5⟩ := h
  refine ⟨va_Nw.warmM hW h1, va_Nw.warmM hW h2, fun q hq => ?_, fun E hE => va_Nw.warmC hW (h4 E hE), va_Nc.moved hW.alike h5⟩
  obtain ⟨sa, h⟩ := h3 q hq
  exact ⟨sa, vk_R.warm hW h⟩
theorem zE.same {s U : State} (hv : U.vm = s.vm) (h : zE s) : zE U := by
  obtain ⟨h1, h2, h3, h4, h5⟩ := h
  refine ⟨va_Nw.same rfl hv.symm h1, va_Nw.same rfl hv.symm h2, fun q hq => ?_, fun E hE => va_Nw.same rfl hv.symm (h4 E hE), by unfold va_Nc; rw [hv]; exact h5⟩
  obtain ⟨sa, h⟩ := h3 q hq
  exact ⟨sa, vk_R.same hv h⟩
def zK (D : va_G) (cI : ClassId) (U : State) : Prop := va_K D vwCl [(cI, .int)] U ∧ zE U
theorem zK.warm {D : va_G} {cI : ClassId} {s U : State} (hW : s.WarmedH U.vm) (h : zK D cI s) : zK D cI U := ⟨va_K.moved hW.alike h.1, h.2.warm hW⟩
theorem zK.call {D : va_G} {cI : ClassId} {U : State} {g : JFrame} {mk : MethodId} {a : Array Value} (h : zK D cI U) : zK D cI (U.calling g mk a) := ⟨va_K.moved (u := U) (U := U.calling g mk a) (Vm.Alike.refl U.vm) h.1, zE.same (s := U) rfl h.2⟩
/-- the addresses are apart, and of a kind: said of the list of addresses, which no row changes -/
def zDD (A : Nat → Prop) (ads : List Nat) : Prop := (∀ (i j a : Nat), ads[i]? = some a → ads[j]? = some a → i = j) ∧ ∀ a ∈ ads, A a
theorem zDD.to {A : Nat → Prop} {ads : List Nat} {ws : va_W} (h : zDD A ads) (hw : ws.map Prod.fst = ads) : va_D A ws := by
  subst hw
  have key : ∀ (k : Nat) (q : Nat × va_E), ws[k]? = some q → (ws.map Prod.fst)[k]? = some q.1 := fun k q hk => by rw [List.getElem?_map, hk]; rfl
  refine ⟨fun i j x y hi hj hxy => h.1 i j x.1 (key i x hi) (by rw [hxy]; exact key j y hj), fun k q hk => h.2 q.1 (List.mem_of_getElem? (key k q hk))⟩
theorem zDD.of {A : Nat → Prop} {ws : va_W} (h : va_D A ws) : zDD A (ws.map Prod.fst) := by
  refine ⟨fun i j a hi hj => ?_, fun a ha => ?_⟩
  · rw [List.getElem?_map] at hi hj
    cases hx : ws[i]? with
    | none => rw [hx] at hi; cases hi
    | some x =>
      cases hy : ws[j]? with
      | none => rw [hy] at hj; cases hj
      | some y =>
        rw [hx] at hi
        rw [hy] at hj
        exact h.1 i j x y hx hy ((Option.some.inj hi).trans (Option.some.inj hj).symm)
  · obtain ⟨q, hq, he⟩ := List.mem_map.mp ha
    obtain ⟨k, hk⟩ := List.getElem?_of_mem hq
    rw [← he]
    exact h.2 k q hk
def roQ (r : Value) : Array Value → State → Outcome → State → Prop := fun _ st o t => o = .returned (some r) ∧ t.heap = st.heap
def RO (l : Launch) (y : MethodName) (ws : List Cond) (rm : Room) (D : va_G) (cI : ClassId) (w0 : va_W) (as : List Value) (r : Value) : Prop :=
  Met l y ws rm (va_Pc as (fun U => va_P D vwCl w0 U.heap ∧ zK D cI U)) (roQ r) 0 0 (fun _ => False)
def muQ (D : va_G) {S : Type} (post : Option Value → S → Prop) (w1 : S → va_W) (w0 : va_W) : Array Value → State → Outcome → State → Prop := fun _ st o t =>
  (∃ (v : Option Value) (u : S), o = .returned v ∧ post v u ∧ va_P D vwCl (w1 u) t.heap) ∧ va_F (zin w0) st t
def MU (l : Launch) (y : MethodName) (ws : List Cond) (rm : Room) (D : va_G) (cI : ClassId) (w0 : va_W) (as : List Value) {S : Type} (post : Option Value → S → Prop) (w1 : S → va_W) : Prop :=
  Met l y ws rm (va_Pc as (fun U => va_P D vwCl w0 U.heap ∧ zK D cI U ∧ va_D (fun _ => True) w0)) (muQ D post w1 w0) 0 0 (zin w0)
theorem ro_of {l : Launch} {y : MethodName} {ws ws' : List Cond} {rm : Room} {D : va_G} {cI : ClassId} {w0 : va_W} {as : List Value} {r : Value} {cc : ByteArray} {maxL : Nat} {ret : Option FieldType} {C : String}
    (hC : y.cls = C) (hy : plainName y.cls = true) (hw : ws = Cond.code y cc maxL ret :: ws') (hn : (lg_sl as).length ≤ maxL)
    (body : ∀ (p : Program) (e : Env) (s : State) (m : MethodId) (args : Array Value) (below : List Frame) (meth : Method) (c : Code) (ls : Array Slot) (Q : State → Prop), MQ below (roQ r) args s 0 0 (fun _ => False) = Q → p.tables.exec = Jvm.exec → c.code = cc → meth.sig.returnType = ret → meth.locks = false → c.maxLocals = maxL → (∀ w ∈ ws, w.before args s = true) → s.vm.findClass C = some m.cls →
      va_K D vwCl [(cI, .int)] s → zE s → va_P D vwCl w0 s.heap → lv_has ls maxL (lv_args 0 as) → W p l e rm s m args below meth c s.heap [] 0 0 Q (F0 m 0 ls [])) : RO l y ws rm D cI w0 as r := by
  refine Met.ofW (cc := cc) (maxL := maxL) (ret := ret) hy hw ?_
  intro p e s m args below meth c s₁ B hml hv
  obtain ⟨rfl, hP, hK, hE⟩ := hv
  have hl := lv_entry as (n := maxL) hn
  rw [lg_entry_eq]
  subst hC
  exact body p e s m as.toArray below meth c _ _ rfl B.exec B.bytes B.returns B.notSynchronized hml (atoms_spec (ws := ws) B.pre) (findClass_of_methodNamed B.named) hK hE hP hl
theorem mu_of {l : Launch} {y : MethodName} {ws ws' : List Cond} {rm : Room} {D : va_G} {cI : ClassId} {w0 : va_W} {as : List Value} {S : Type} {post : Option Value → S → Prop} {w1 : S → va_W} {cc : ByteArray} {maxL : Nat} {ret : Option FieldType} {C : String}
    (hC : y.cls = C) (hy : plainName y.cls = true) (hw : ws = Cond.code y cc maxL ret :: ws') (hn : (lg_sl as).length ≤ maxL)
    (body : ∀ (p : Program) (e : Env) (s : State) (m : MethodId) (args : Array Value) (below : List Frame) (meth : Method) (c : Code) (ls : Array Slot) (Q : State → Prop) (A : Nat → Prop), zin w0 = A → MQ below (muQ D post w1 w0) args s 0 0 A = Q → p.tables.exec = Jvm.exec → c.code = cc → meth.sig.returnType = ret → meth.locks = false → c.maxLocals = maxL → (∀ w ∈ ws, w.before args s = true) → s.vm.findClass C = some m.cls →
      va_K D vwCl [(cI, .int)] s → zE s → zDD A (w0.map Prod.fst) → ∀ (H : Heap) (locs : List Loc), va_P D vwCl w0 H → va_S A s.heap H locs → lv_has ls maxL (lv_args 0 as) → W p l e rm s m args below meth c H locs 0 0 Q (F0 m 0 ls [])) : MU l y ws rm D cI w0 as post w1 := by
  refine Met.ofW (cc := cc) (maxL := maxL) (ret := ret) hy hw ?_
  intro p e s m args below meth c s₁ B hml hv
  obtain ⟨rfl, hP, ⟨hK, hE⟩, hD⟩ := hv
  have hl := lv_entry as (n := maxL) hn
  rw [lg_entry_eq]
  subst hC
  have hD' : va_D (zin w0) w0 := ⟨hD.1, fun k q hk => List.mem_map.mpr ⟨q, List.mem_of_getElem? hk, rfl⟩⟩
  exact body p e s m as.toArray below meth c _ _ _ rfl rfl B.exec B.bytes B.returns B.notSynchronized hml (atoms_spec (ws := ws) B.pre) (findClass_of_methodNamed B.named) hK hE (zDD.of hD') s.heap [] hP va_S.rf hl
section ZROWS
variable {p : Program} {l : Launch} {e : Env} {R : Room} {s : State} {m : MethodId} {args : Array Value} {below : List Frame} {meth : Method} {c : Code} {H : Heap} {locs : List Loc} {cells slots : Nat} {Q : State → Prop}
variable {cc : ByteArray} {pc : Nat} {ls : Array Slot} {rest : List Value} {D : va_G} {A : Nat → Prop} {a : Nat} {tys : List (ClassId × FieldType)} {ws : va_W} {H0 : Heap}
theorem z_bipush {n : Nat} {z : Int} (hx : p.tables.exec = Jvm.exec) (hb : c.code = cc) (hz : z = (n : Int)) (hn : n < 128) (hdg : decode cc pc = .ok (.bipush z, 2))
    (k : W p l e R s m args below meth c H locs cells slots Q (F0 m (pc + 2) ls (.int (nI n) :: rest))) : W p l e R s m args below meth c H locs cells slots Q (F0 m pc ls rest) :=
  lv_bipush hx hb hdg (by rw [hz]; exact bp_of n hn) k
theorem z_iadd {x y : Nat} (hx : p.tables.exec = Jvm.exec) (hb : c.code = cc) (hdg : decode cc pc = .ok (.iadd, 1))
    (k : W p l e R s m args below meth c H locs cells slots Q (F0 m (pc + 1) ls (.int (nI (x + y)) :: rest))) : W p l e R s m args below meth c H locs cells slots Q (F0 m pc ls (.int (nI y) :: .int (nI x) :: rest)) :=
  lv_iadd hx hb hdg (by rw [nI_add]; exact k)
theorem z_isub {x y : Nat} (hx : p.tables.exec = Jvm.exec) (hb : c.code = cc) (hdg : decode cc pc = .ok (.isub, 1)) (h : y ≤ x)
    (k : W p l e R s m args below meth c H locs cells slots Q (F0 m (pc + 1) ls (.int (nI (x - y)) :: rest))) : W p l e R s m args below meth c H locs cells slots Q (F0 m pc ls (.int (nI y) :: .int (nI x) :: rest)) :=
  lv_isub hx hb hdg (by rw [pk_sub h]; exact k)
theorem z_imul {x y : Nat} (hx : p.tables.exec = Jvm.exec) (hb : c.code = cc) (hdg : decode cc pc = .ok (.imul, 1))
    (k : W p l e R s m args below meth c H locs cells slots Q (F0 m (pc + 1) ls (.int (nI (x * y)) :: rest))) : W p l e R s m args below meth c H locs cells slots Q (F0 m pc ls (.int (nI y) :: .int (nI x) :: rest)) :=
  lv_imul hx hb hdg (by rw [pk_mul]; exact k)
theorem z_idiv {x y : Nat} (hx : p.tables.exec = Jvm.exec) (hb : c.code = cc) (hdg : decode cc pc = .ok (.idiv, 1)) (h1 : x < 2 ^ 31) (h0 : 0 < y) (h2 : y < 2 ^ 31)
    (k : W p l e R s m args below meth c H locs cells slots Q (F0 m (pc + 1) ls (.int (nI (x / y)) :: rest))) : W p l e R s m args below meth c H locs cells slots Q (F0 m pc ls (.int (nI y) :: .int (nI x) :: rest)) :=
  lv_idiv hx hb hdg (nI_ne0 h0 h2) (by rw [pk_div h1 h0 h2]; exact k)
theorem z_irem {x y : Nat} (hx : p.tables.exec = Jvm.exec) (hb : c.code = cc) (hdg : decode cc pc = .ok (.irem, 1)) (h1 : x < 2 ^ 31) (h0 : 0 < y) (h2 : y < 2 ^ 31)
    (k : W p l e R s m args below meth c H locs cells slots Q (F0 m (pc + 1) ls (.int (nI (x % y)) :: rest))) : W p l e R s m args below meth c H locs cells slots Q (F0 m pc ls (.int (nI y) :: .int (nI x) :: rest)) :=
  lv_irem hx hb hdg (nI_ne0 h0 h2) (by rw [pk_rem h1 h0 h2]; exact k)
/-- the number on top under another name -/
theorem z_top {x y : Int32} (h : x = y) (k : W p l e R s m args below meth c H locs cells slots Q (F0 m pc ls (.int y :: rest))) : W p l e R s m args below meth c H locs cells slots Q (F0 m pc ls (.int x :: rest)) := h ▸ k
theorem z_icmp_lt {x y tgt : Nat} {off : Int} (hx : p.tables.exec = Jvm.exec) (hb : c.code = cc) (hdg : decode cc pc = .ok (.if_icmp .lt off, 3)) (ht : (pc : Int) + off = (tgt : Int)) (h1 : x < 2 ^ 31) (h2 : y < 2 ^ 31)
    (kt : x < y → W p l e R s m args below meth c H locs cells slots Q (F0 m tgt ls rest)) (kf : y ≤ x → W p l e R s m args below meth c H locs cells slots Q (F0 m (pc + 3) ls rest)) : W p l e R s m args below meth c H locs cells slots Q (F0 m pc ls (.int (nI y) :: .int (nI x) :: rest)) :=
  lv_icmp_lt hx hb hdg ht (fun h => kt ((nI_ltI h1 h2).mp h)) (fun h => kf (Nat.not_lt.mp fun q => h ((nI_ltI h1 h2).mpr q)))
theorem z_icmp_ge {x y tgt : Nat} {off : Int} (hx : p.tables.exec = Jvm.exec) (hb : c.code = cc) (hdg : decode cc pc = .ok (.if_icmp .ge off, 3)) (ht : (pc : Int) + off = (tgt : Int)) (h1 : x < 2 ^ 31) (h2 : y < 2 ^ 31)
    (kt : y ≤ x → W p l e R s m args below meth c H locs cells slots Q (F0 m tgt ls rest)) (kf : x < y → W p l e R s m args below meth c H locs cells slots Q (F0 m (pc + 3) ls rest)) : W p l e R s m args below meth c H locs cells slots Q (F0 m pc ls (.int (nI y) :: .int (nI x) :: rest)) :=
  lv_icmp_ge hx hb hdg ht (fun h => kt ((nI_leI h2 h1).mp h)) (fun h => kf (Nat.not_le.mp fun q => h ((nI_leI h2 h1).mpr q)))
theorem z_icmp_gt {x y tgt : Nat} {off : Int} (hx : p.tables.exec = Jvm.exec) (hb : c.code = cc) (hdg : decode cc pc = .ok (.if_icmp .gt off, 3)) (ht : (pc : Int) + off = (tgt : Int)) (h1 : x < 2 ^ 31) (h2 : y < 2 ^ 31)
    (kt : y < x → W p l e R s m args below meth c H locs cells slots Q (F0 m tgt ls rest)) (kf : x ≤ y → W p l e R s m args below meth c H locs cells slots Q (F0 m (pc + 3) ls rest)) : W p l e R s m args below meth c H locs cells slots Q (F0 m pc ls (.int (nI y) :: .int (nI x) :: rest)) :=
  lv_icmp_gt hx hb hdg ht (fun h => kt ((nI_ltI h2 h1).mp h)) (fun h => kf (Nat.not_lt.mp fun q => h ((nI_ltI h2 h1).mpr q)))
theorem z_icmp_le {x y tgt : Nat} {off : Int} (hx : p.tables.exec = Jvm.exec) (hb : c.code = cc) (hdg : decode cc pc = .ok (.if_icmp .le off, 3)) (ht : (pc : Int) + off = (tgt : Int)) (h1 : x < 2 ^ 31) (h2 : y < 2 ^ 31)
    (kt : x ≤ y → W p l e R s m args below meth c H locs cells slots Q (F0 m tgt ls rest)) (kf : y < x → W p l e R s m args below meth c H locs cells slots Q (F0 m (pc + 3) ls rest)) : W p l e R s m args below meth c H locs cells slots Q (F0 m pc ls (.int (nI y) :: .int (nI x) :: rest)) :=
  lv_icmp_le hx hb hdg ht (fun h => kt ((nI_leI h1 h2).mp h)) (fun h => kf (Nat.not_le.mp fun q => h ((nI_leI h1 h2).mpr q)))
theorem z_icmp_eq {x y tgt : Nat} {off : Int} (hx : p.tables.exec = Jvm.exec) (hb : c.code = cc) (hdg : decode cc pc = .ok (.if_icmp .eq off, 3)) (ht : (pc : Int) + off = (tgt : Int)) (h1 : x < 2 ^ 31) (h2 : y < 2 ^ 31)
    (kt : x = y → W p l e R s m args below meth c H locs cells slots Q (F0 m tgt ls rest)) (kf : x ≠ y → W p l e R s m args below meth c H locs cells slots Q (F0 m (pc + 3) ls rest)) : W p l e R s m args below meth c H locs cells slots Q (F0 m pc ls (.int (nI y) :: .int (nI x) :: rest)) :=
  lv_icmp_eq hx hb hdg ht (fun h => kt ((nI_eq h1 h2).mp h)) (fun h => kf fun q => h ((nI_eq h1 h2).mpr q))
theorem z_icmp_ne {x y tgt : Nat} {off : Int} (hx : p.tables.exec = Jvm.exec) (hb : c.code = cc) (hdg : decode cc pc = .ok (.if_icmp .ne off, 3)) (ht : (pc : Int) + off = (tgt : Int)) (h1 : x < 2 ^ 31) (h2 : y < 2 ^ 31)
    (kt : x ≠ y → W p l e R s m args below meth c H locs cells slots Q (F0 m tgt ls rest)) (kf : x = y → W p l e R s m args below meth c H locs cells slots Q (F0 m (pc + 3) ls rest)) : W p l e R s m args below meth c H locs cells slots Q (F0 m pc ls (.int (nI y) :: .int (nI x) :: rest)) :=
  lv_icmp_ne hx hb hdg ht (fun h => kt fun q => h ((nI_eq h1 h2).mpr q)) (fun h => kf ((nI_eq h1 h2).mp h))
theorem z_if_lt {x : Nat} {off : Int} {tgt : Nat} (hx : p.tables.exec = Jvm.exec) (hb : c.code = cc) (hdg : decode cc pc = .ok (.ifCond .lt off, 3)) (ht : (pc : Int) + off = (tgt : Int)) (h1 : x < 2 ^ 31)
    (kf : W p l e R s m args below meth c H locs cells slots Q (F0 m (pc + 3) ls rest)) : W p l e R s m args below meth c H locs cells slots Q (F0 m pc ls (.int (nI x) :: rest)) :=
  lv_if_lt hx hb hdg ht (fun h => absurd h (nI_pos h1)) (fun _ => kf)
theorem z_if_ge {x tgt : Nat} {off : Int} (hx : p.tables.exec = Jvm.exec) (hb : c.code = cc) (hdg : decode cc pc = .ok (.ifCond .ge off, 3)) (ht : (pc : Int) + off = (tgt : Int)) (h1 : x < 2 ^ 31)
    (kt : W p l e R s m args below meth c H locs cells slots Q (F0 m tgt ls rest)) : W p l e R s m args below meth c H locs cells slots Q (F0 m pc ls (.int (nI x) :: rest)) :=
  lv_if_ge hx hb hdg ht (fun _ => kt) (fun h => absurd (nI_pos' h1) h)
theorem z_if_eq {x tgt : Nat} {off : Int} (hx : p.tables.exec = Jvm.exec) (hb : c.code = cc) (hdg : decode cc pc = .ok (.ifCond .eq off, 3)) (ht : (pc : Int) + off = (tgt : Int)) (h1 : x < 2 ^ 31)
    (kt : x = 0 → W p l e R s m args below meth c H locs cells slots Q (F0 m tgt ls rest)) (kf : 0 < x → W p l e R s m args below meth c H locs cells slots Q (F0 m (pc + 3) ls rest)) : W p l e R s m args below meth c H locs cells slots Q (F0 m pc ls (.int (nI x) :: rest)) :=
  lv_if_eq hx hb hdg ht (fun h => kt (by rcases Nat.eq_zero_or_pos x with q | q; exact q; exact absurd h (nI_ne0 q h1))) (fun h => kf (by rcases Nat.eq_zero_or_pos x with q | q; exact absurd (by rw [q]; exact nI_0) h; exact q))
theorem z_if_ne {x tgt : Nat} {off : Int} (hx : p.tables.exec = Jvm.exec) (hb : c.code = cc) (hdg : decode cc pc = .ok (.ifCond .ne off, 3)) (ht : (pc : Int) + off = (tgt : Int)) (h1 : x < 2 ^ 31)
    (kt : 0 < x → W p l e R s m args below meth c H locs cells slots Q (F0 m tgt ls rest)) (kf : x = 0 → W p l e R s m args below meth c H locs cells slots Q (F0 m (pc + 3) ls rest)) : W p l e R s m args below meth c H locs cells slots Q (F0 m pc ls (.int (nI x) :: rest)) :=
  lv_if_ne hx hb hdg ht (fun h => kt (by rcases Nat.eq_zero_or_pos x with q | q; exact absurd (by rw [q]; exact nI_0) h; exact q)) (fun h => kf (by rcases Nat.eq_zero_or_pos x with q | q; exact q; exact absurd h (nI_ne0 q h1)))
theorem z_if_le {x tgt : Nat} {off : Int} (hx : p.tables.exec = Jvm.exec) (hb : c.code = cc) (hdg : decode cc pc = .ok (.ifCond .le off, 3)) (ht : (pc : Int) + off = (tgt : Int)) (h1 : x < 2 ^ 31)
    (kt : x = 0 → W p l e R s m args below meth c H locs cells slots Q (F0 m tgt ls rest)) (kf : 0 < x → W p l e R s m args below meth c H locs cells slots Q (F0 m (pc + 3) ls rest)) : W p l e R s m args below meth c H locs cells slots Q (F0 m pc ls (.int (nI x) :: rest)) :=
  lv_if_le hx hb hdg ht (fun h => kt (by rcases Nat.eq_zero_or_pos x with q | q; exact q; exact absurd h (nI_nle q h1))) (fun h => kf (by rcases Nat.eq_zero_or_pos x with q | q; exact absurd (by rw [q]; exact (by decide : nI 0 ≤ 0)) h; exact q))
theorem z_if_eqP {P : Prop} {tgt : Nat} {off : Int} (hx : p.tables.exec = Jvm.exec) (hb : c.code = cc) (hdg : decode cc pc = .ok (.ifCond .eq off, 3)) (ht : (pc : Int) + off = (tgt : Int))
    (kt : ¬ P → W p l e R s m args below meth c H locs cells slots Q (F0 m tgt ls rest)) (kf : P → W p l e R s m args below meth c H locs cells slots Q (F0 m (pc + 3) ls rest)) : W p l e R s m args below meth c H locs cells slots Q (F0 m pc ls (.int (z1 P) :: rest)) :=
  lv_if_eq hx hb hdg ht (fun h => kt (z1_p h)) (fun h => kf (z1_n h))
theorem z_if_neP {P : Prop} {tgt : Nat} {off : Int} (hx : p.tables.exec = Jvm.exec) (hb : c.code = cc) (hdg : decode cc pc = .ok (.ifCond .ne off, 3)) (ht : (pc : Int) + off = (tgt : Int))
    (kt : P → W p l e R s m args below meth c H locs cells slots Q (F0 m tgt ls rest)) (kf : ¬ P → W p l e R s m args below meth c H locs cells slots Q (F0 m (pc + 3) ls rest)) : W p l e R s m args below meth c H locs cells slots Q (F0 m pc ls (.int (z1 P) :: rest)) :=
  lv_if_ne hx hb hdg ht (fun h => kt (z1_n h)) (fun h => kf (z1_p h))
theorem z_ialdN (hx : p.tables.exec = Jvm.exec) (hb : c.code = cc) (hK : va_K D vwCl tys s) (hP : va_P D vwCl ws H) (q0 t0 : Nat) {cA : ClassId} {n : Nat} {g : Nat → Nat} (ha : ws[q0]? = some (a, .inl (cA, n, .inl (nA g)))) (ht : tys[t0]? = some (cA, .int)) {i : Nat} (hi : i < n) (hn : n < 2 ^ 31) (hdg : decode cc pc = .ok (.iaload, 1))
    (kk : W p l e R s m args below meth c H locs cells slots Q (F0 m (pc + 1) ls (.int (nI (g i)) :: rest))) : W p l e R s m args below meth c H locs cells slots Q (F0 m pc ls (.int (nI i) :: .ref a :: rest)) := by
  refine va_iald hx hb hK hP q0 t0 ha ht (vp_in_nI hi hn) hdg ?_
  rw [nI_clamp (Nat.lt_trans hi hn)]
  exact kk
theorem z_iald (hx : p.tables.exec = Jvm.exec) (hb : c.code = cc) (hK : va_K D vwCl tys s) (hP : va_P D vwCl ws H) (q0 t0 : Nat) {cA : ClassId} {n : Nat} {g : Nat → Int32} (ha : ws[q0]? = some (a, .inl (cA, n, .inl g))) (ht : tys[t0]? = some (cA, .int)) {i : Nat} (hi : i < n) (hn : n < 2 ^ 31) (hdg : decode cc pc = .ok (.iaload, 1))
    (kk : W p l e R s m args below meth c H locs cells slots Q (F0 m (pc + 1) ls (.int (g i) :: rest))) : W p l e R s m args below meth c H locs cells slots Q (F0 m pc ls (.int (nI i) :: .ref a :: rest)) := by
  refine va_iald hx hb hK hP q0 t0 ha ht (vp_in_nI hi hn) hdg ?_
  rw [nI_clamp (Nat.lt_trans hi hn)]
  exact kk
theorem z_iastN (hx : p.tables.exec = Jvm.exec) (hb : c.code = cc) (hK : va_K D vwCl tys s) (hP : va_P D vwCl ws H) {ads : List Nat} (hD : zDD A ads) (hads : ws.map Prod.fst = ads) (hS : va_S A H0 H locs) (q0 t0 : Nat) {cA : ClassId} {n : Nat} {g : Nat → Nat} (ha : ws[q0]? = some (a, .inl (cA, n, .inl (nA g)))) (ht : tys[t0]? = some (cA, .int)) {i x : Nat} (hi : i < n) (hn : n < 2 ^ 31) (hdg : decode cc pc = .ok (.iastore, 1))
    (kk : ∀ (H1 : Heap) (locs1 : List Loc), va_P D vwCl (ws.set q0 (a, .inl (cA, n, .inl (nA (updN g i x))))) H1 → va_S A H0 H1 locs1 → W p l e R s m args below meth c H1 locs1 cells slots Q (F0 m (pc + 1) ls rest)) : W p l e R s m args below meth c H locs cells slots Q (F0 m pc ls (.int (nI x) :: .int (nI i) :: .ref a :: rest)) := by
  refine va_iast hx hb hK hP (hD.to hads) hS q0 t0 ha ht (vp_in_nI hi hn) hdg (fun H1 locs1 h1 _ h3 => ?_)
  rw [nI_clamp (Nat.lt_trans hi hn), upd_nA] at h1
  exact kk H1 locs1 h1 h3
theorem z_iast (hx : p.tables.exec = Jvm.exec) (hb : c.code = cc) (hK : va_K D vwCl tys s) (hP : va_P D vwCl ws H) {ads : List Nat} (hD : zDD A ads) (hads : ws.map Prod.fst = ads) (hS : va_S A H0 H locs) (q0 t0 : Nat) {cA : ClassId} {n : Nat} {g : Nat → Int32} (ha : ws[q0]? = some (a, .inl (cA, n, .inl g))) (ht : tys[t0]? = some (cA, .int)) {i : Nat} {x : Int32} (hi : i < n) (hn : n < 2 ^ 31) (hdg : decode cc pc = .ok (.iastore, 1))
    (kk : ∀ (H1 : Heap) (locs1 : List Loc), va_P D vwCl (ws.set q0 (a, .inl (cA, n, .inl (upd g i x)))) H1 → va_S A H0 H1 locs1 → W p l e R s m args below meth c H1 locs1 cells slots Q (F0 m (pc + 1) ls rest)) : W p l e R s m args below meth c H locs cells slots Q (F0 m pc ls (.int x :: .int (nI i) :: .ref a :: rest)) := by
  refine va_iast hx hb hK hP (hD.to hads) hS q0 t0 ha ht (vp_in_nI hi hn) hdg (fun H1 locs1 h1 _ h3 => ?_)
  rw [nI_clamp (Nat.lt_trans hi hn)] at h1
  exact kk H1 locs1 h1 h3
variable {y : MethodName} {bytes : ByteArray} {maxL nL n index : Nat} {ret : Option FieldType} {wsc : List Cond} {rmc : Room} {Ts : List Cond} {own C : String} {b : Nat} {As st : List Value} {w0 : va_W} {cI : ClassId} {r : Value}
theorem ro_call {st : List Value} {a' : Array Value} {free : Addr → Prop} (hfree : ∀ q, ¬ free q) (hr : va_Run p l e R s m args below meth c H locs cells slots 0 0 (F0 m pc ls st) rest (roQ r a') free)
    (kk : W p l e R s m args below meth c H locs cells slots Q (F0 m (pc + 3) ls (r :: rest))) : W p l e R s m args below meth c H locs cells slots Q (F0 m pc ls st) := by
  intro T hT X
  obtain ⟨v, st₀, t, T', L, h0, X', hL, e1, e2, ⟨hv, hh⟩, hst⟩ := hr T hT X
  cases hv
  have hL0 : L = [] := by
    cases L with
    | nil => rfl
    | cons q _ => exact (hfree _ (hL q List.mem_cons_self)).elim
  subst hL0
  rw [List.append_nil] at X'
  obtain ⟨t2, a1, b1⟩ := kk T' (by rw [e1, hh, h0]) X'
  exact ⟨t2, hst t2 a1, b1⟩
theorem z_put {own ref : String} {T : u_T} {N ci index : Nat} (hx : p.tables.exec = Jvm.exec) (hb : c.code = cc) (hts : ∀ w ∈ Ts, w.before args s = true) (hin : ∀ w ∈ u_ws C T N, w ∈ Ts) (ty0 : Nat → FieldType) (hty : ∀ k, k < N → parseFieldDescriptor (T k).2.2.1 = some (ty0 k)) (hnm : ∀ a, a < N → ∀ b, b < N → a ≠ b → (T a).2.1 ≠ (T b).2.1) (hown : s.vm.findClass own = some m.cls) (hK : va_K D vwCl tys s) (hP : va_P D vwCl ws H) {ads : List Nat} (hD : zDD A ads) (hads : ws.map Prod.fst = ads) (hS : va_S A H0 H locs) (q0 : Nat) {fs : List Value} (he : ws[q0]? = some (a, .inr (ci, fs))) (hc : vwCl[ci]? = some (C, T, N)) (k : Nat) (hk : k < N) (hlink : (Cond.fieldLink own index ref (T k).2.1 (T k).2.2.1).before args s = true) (hsame : ∀ x, s.fieldFound? (T k).1 (T k).2.1 (T k).2.2.1 = some x → s.fieldFound? ref (T k).2.1 (T k).2.2.1 = some x) (hfin : (T k).2.2.2 = false) {x : Int32} (hd : parseFieldDescriptor (T k).2.2.1 = some .int) (hl : k < fs.length)
    (hdg : decode cc pc = .ok (.putfield index, 3)) (kk : ∀ (H1 : Heap) (locs1 : List Loc), va_P D vwCl (ws.set q0 (a, .inr (ci, fs.set k (.int x)))) H1 → va_S A H0 H1 locs1 → W p l e R s m args below meth c H1 locs1 cells slots Q (F0 m (pc + 3) ls rest)) : W p l e R s m args below meth c H locs cells slots Q (F0 m pc ls (.int x :: .ref a :: rest)) :=
  va_put hx hb hts hin ty0 hty hnm hown hK hP (hD.to hads) hS q0 he hc k hk hlink hsame hfin hd rfl rfl hl hdg (fun H1 locs1 h1 _ h3 => kk H1 locs1 h1 h3)
theorem z_roV (S : CallFix p m c cc nL s args Ts own) (hM : RO l y wsc rmc D cI w0 (.ref b :: As) r) (cw : CallW R s args own C index y bytes maxL ret wsc rmc 0 0 n) (hK : zK D cI s) (hP : va_P D vwCl w0 H)
    (hrecv : ∃ cell : Cell, H[b]? = some cell ∧ cell.vm.isStatics = false ∧ s.vm.findClass C = some cell.cls) (hn : As.length = n) (hls : ls.size = nL) (hst : st = As.reverse ++ .ref b :: rest) (hcat : (rest.map fun v => v.category).sum ≤ 8) (hdg : decode cc pc = .ok (.invokevirtual index, 3)) (hc : cells ≤ R.cells) (hs : slots ≤ R.slots)
    (kk : W p l e R s m args below meth c H locs cells slots Q (F0 m (pc + 3) ls (r :: rest))) : W p l e R s m args below meth c H locs cells slots Q (F0 m pc ls st) := by
  subst hst
  exact ro_call (fun _ h => h) (va_runV S hM cw ⟨fun a U g mk q => ⟨q.1, q.2.1, q.2.2.call⟩, hrecv, fun U hU hW => ⟨rfl, by rw [hU]; exact hP, hK.warm hW⟩⟩ rfl hn hls rfl (lv_room hcat) hdg ⟨hc, hs⟩) kk
theorem z_roS (S : CallFix p m c cc nL s args Ts own) (hM : RO l y wsc rmc D cI w0 As r) (cw : CallB R s args own index y bytes maxL ret wsc rmc 0 0 n ∧ (Cond.static y).before args s = true) (hK : zK D cI s) (hP : va_P D vwCl w0 H)
    (hn : As.length = n) (hls : ls.size = nL) (hst : st = As.reverse ++ rest) (hcat : (rest.map fun v => v.category).sum ≤ 8) (hdg : decode cc pc = .ok (.invokestatic index, 3)) (hc : cells ≤ R.cells) (hs : slots ≤ R.slots)
    (kk : W p l e R s m args below meth c H locs cells slots Q (F0 m (pc + 3) ls (r :: rest))) : W p l e R s m args below meth c H locs cells slots Q (F0 m pc ls st) := by
  subst hst
  exact ro_call (fun _ h => h) (va_runS S hM cw ⟨fun a U g mk q => ⟨q.1, q.2.1, q.2.2.call⟩, fun U hU hW => ⟨rfl, by rw [hU]; exact hP, hK.warm hW⟩⟩ rfl hn hls rfl (lv_room hcat) hdg ⟨hc, hs⟩) kk
theorem z_roSN {host : String} (S : CallFix p m c cc nL s args Ts own) (hM : RO l y wsc rmc D cI w0 As r) (cw : va_CN R s args own index y host bytes maxL ret wsc rmc 0 0 n ∧ (Cond.static y).before args s = true ∧ True) (hK : zK D cI s) (hP : va_P D vwCl w0 H)
    (hn : As.length = n) (hls : ls.size = nL) (hst : st = As.reverse ++ rest) (hcat : (rest.map fun v => v.category).sum ≤ 8) (hdg : decode cc pc = .ok (.invokestatic index, 3)) (hc : cells ≤ R.cells) (hs : slots ≤ R.slots)
    (kk : W p l e R s m args below meth c H locs cells slots Q (F0 m (pc + 3) ls (r :: rest))) : W p l e R s m args below meth c H locs cells slots Q (F0 m pc ls st) := by
  subst hst
  exact ro_call (fun _ h => h) (va_runSN S hM cw ⟨fun a U g mk q => ⟨q.1, q.2.1, q.2.2.call⟩, fun U hU hW => ⟨rfl, by rw [hU]; exact hP, hK.warm hW⟩⟩ rfl hn hls rfl (lv_room hcat) hdg ⟨hc, hs⟩) kk
theorem mu_call {S : Type} {post : Option Value → S → Prop} {w1 : S → va_W} {st : List Value} {a' : Array Value} {ads : List Nat} (hr : va_Run p l e R s m args below meth c H locs cells slots 0 0 (F0 m pc ls st) rest (muQ D post w1 w0 a') (zin w0)) (hP : va_P D vwCl ws H) (hD : zDD A ads) (hads : ws.map Prod.fst = ads) (hS : va_S A H0 H locs)
    (is : List Nat) (hnd : va_nd is = true) (his : is.map (fun i => ws[i]?) = w0.map some) (hw1 : ∀ u, (w1 u).map Prod.fst = w0.map Prod.fst)
    (kk : ∀ (v : Option Value) (u : S) (H1 : Heap) (locs1 : List Loc), post v u → va_P D vwCl (zput ws is (w1 u)) H1 → va_S A H0 H1 locs1 → W p l e R s m args below meth c H1 locs1 cells slots Q (F0 m (pc + 3) ls (v.toList ++ rest))) : W p l e R s m args below meth c H locs cells slots Q (F0 m pc ls st) := by
  intro T hT X
  have hDw := hD.to hads
  have hsub : ∀ q, zin w0 q → A q := by
    intro q hq
    obtain ⟨x, hx, rfl⟩ := List.mem_map.mp hq
    obtain ⟨j, hj⟩ := List.getElem?_of_mem hx
    have h3 : (is.map (fun i => ws[i]?))[j]? = some (some x) := by rw [his, List.getElem?_map, hj]; rfl
    rw [List.getElem?_map] at h3
    cases hi : is[j]? with
    | none => rw [hi] at h3; cases h3
    | some i => rw [hi] at h3; exact hDw.2 i x (Option.some.inj h3)
  obtain ⟨v, st₀, t, T', L, h0, X', hL, e1, e2, ⟨⟨v', u, hv, hp, hP1⟩, hz, hk⟩, hst⟩ := hr T hT X
  cases hv
  rw [h0] at hz hk
  have hk' : ∀ q : Nat, q < H.size → ¬ zin w0 q → T'.heap[q]? = H[q]? := fun q h1 h2 => by rw [e1]; exact hk q h1 h2
  have hPn := (zput_P hP hDw is hnd his (hw1 u) (by rw [e1]; exact hP1) hk').1
  obtain ⟨t2, a1, b1⟩ := kk v u T'.heap (locs ++ L) hp hPn ⟨Nat.le_trans hS.1 (by rw [e1]; exact hz), fun q h1 h2 => by rw [hk' q (Nat.lt_of_lt_of_le h1 hS.1) (fun z => h2 (hsub q z))]; exact hS.2.1 q h1 h2, fun q hq => by
      rcases List.mem_append.mp hq with h | h
      · exact hS.2.2 q h
      · exact hsub _ (hL q h)⟩ T' rfl X'
  exact ⟨t2, hst t2 a1, b1⟩
theorem z_muV {S : Type} {post : Option Value → S → Prop} {w1 : S → va_W} {ads : List Nat} (S0 : CallFix p m c cc nL s args Ts own) (hM : MU l y wsc rmc D cI w0 (.ref b :: As) post w1) (cw : CallW R s args own C index y bytes maxL ret wsc rmc 0 0 n) (hK : zK D cI s) (hP : va_P D vwCl ws H) (hD : zDD A ads) (hads : ws.map Prod.fst = ads) (hS : va_S A H0 H locs)
    (is : List Nat) (hnd : va_nd is = true) (his : is.map (fun i => ws[i]?) = w0.map some) (hw1 : ∀ u, (w1 u).map Prod.fst = w0.map Prod.fst)
    (hrecv : ∃ cell : Cell, H[b]? = some cell ∧ cell.vm.isStatics = false ∧ s.vm.findClass C = some cell.cls) (hn : As.length = n) (hls : ls.size = nL) (hst : st = As.reverse ++ .ref b :: rest) (hcat : (rest.map fun v => v.category).sum ≤ 8) (hdg : decode cc pc = .ok (.invokevirtual index, 3)) (hc : cells ≤ R.cells) (hs : slots ≤ R.slots)
    (kk : ∀ (v : Option Value) (u : S) (H1 : Heap) (locs1 : List Loc), post v u → va_P D vwCl (zput ws is (w1 u)) H1 → va_S A H0 H1 locs1 → W p l e R s m args below meth c H1 locs1 cells slots Q (F0 m (pc + 3) ls (v.toList ++ rest))) : W p l e R s m args below meth c H locs cells slots Q (F0 m pc ls st) := by
  subst hst
  have hDw := hD.to hads
  have hP0 : va_P D vwCl w0 H := by
    refine hP.sub is ?_
    have h1 := congrArg (List.filterMap id) his
    rw [List.filterMap_map, List.filterMap_map] at h1
    simpa using h1
  exact mu_call (va_runV S0 hM cw ⟨fun a U g mk q => ⟨q.1, q.2.1, q.2.2.1.call, q.2.2.2⟩, hrecv, fun U hU hW => ⟨rfl, by rw [hU]; exact hP0, hK.warm hW, (hDw.sub is hnd his).weaken (fun _ _ _ _ => trivial)⟩⟩ rfl hn hls rfl (lv_room hcat) hdg ⟨hc, hs⟩) hP hD hads hS is hnd his hw1 kk
theorem ro_iret {x : Int32} (hQ : MQ below (roQ (.int x)) args s 0 0 (fun _ => False) = Q) (hx : p.tables.exec = Jvm.exec) (hb : c.code = cc) (hr : meth.sig.returnType = some .int) (hlocks : meth.locks = false) {v : Int32} (hv : v = x) (hdg : decode cc pc = .ok (.ireturn, 1)) : W p l e R s m args below meth c s.heap [] 0 0 Q (F0 m pc ls [.int v]) := by
  subst hQ
  subst hv
  exact W.iret hx hb hr (fun t ht _ => ⟨rfl, ht⟩) (fun _ h => nomatch h) hdg hlocks
theorem ro_zret {P : Prop} (hQ : MQ below (roQ (.int (z1 P))) args s 0 0 (fun _ => False) = Q) (hx : p.tables.exec = Jvm.exec) (hb : c.code = cc) (hr : meth.sig.returnType = some .boolean) (hlocks : meth.locks = false) {v : Int32} (hv : v = z1 P) (hdg : decode cc pc = .ok (.ireturn, 1)) : W p l e R s m args below meth c s.heap [] 0 0 Q (F0 m pc ls [.int v]) := by
  subst hQ
  subst hv
  exact W.zret hx hb hr (z1_nar P) (fun t ht _ => ⟨rfl, ht⟩) (fun _ h => nomatch h) hdg hlocks
theorem ro_lret {x : Int64} (hQ : MQ below (roQ (.long x)) args s 0 0 (fun _ => False) = Q) (hx : p.tables.exec = Jvm.exec) (hb : c.code = cc) (hr : meth.sig.returnType = some .long) (hlocks : meth.locks = false) {v : Int64} (hv : v = x) (hdg : decode cc pc = .ok (.lreturn, 1)) : W p l e R s m args below meth c s.heap [] 0 0 Q (F0 m pc ls [.long v]) := by
  subst hQ
  subst hv
  exact W.lret hx hb hr (fun t ht _ => ⟨rfl, ht⟩) (fun _ h => nomatch h) hdg hlocks
theorem ro_dret {x : UInt64} (hQ : MQ below (roQ (.double x)) args s 0 0 (fun _ => False) = Q) (hx : p.tables.exec = Jvm.exec) (hb : c.code = cc) (hr : meth.sig.returnType = some .double) (hlocks : meth.locks = false) {v : UInt64} (hv : v = x) (hdg : decode cc pc = .ok (.dreturn, 1)) : W p l e R s m args below meth c s.heap [] 0 0 Q (F0 m pc ls [.double v]) := by
  subst hQ
  subst hv
  exact W.dret hx hb hr (fun t ht _ => ⟨rfl, ht⟩) (fun _ h => nomatch h) hdg hlocks
theorem mu_iret {S : Type} {post : Option Value → S → Prop} {w1 : S → va_W} (hA : zin w0 = A) (hQ : MQ below (muQ D post w1 w0) args s 0 0 A = Q) (hx : p.tables.exec = Jvm.exec) (hb : c.code = cc) (hr : meth.sig.returnType = some .int) (hlocks : meth.locks = false) {v : Int32} (u : S) (hP : va_P D vwCl (w1 u) H) (hS : va_S A s.heap H locs) (hp : post (some (.int v)) u) (hdg : decode cc pc = .ok (.ireturn, 1)) : W p l e R s m args below meth c H locs 0 0 Q (F0 m pc ls [.int v]) := by
  subst hQ
  subst hA
  exact W.iret hx hb hr (fun t ht _ => ⟨⟨_, u, rfl, hp, by rw [ht]; exact hP⟩, hS.F ht⟩) hS.2.2 hdg hlocks
theorem mu_zret {S : Type} {post : Option Value → S → Prop} {w1 : S → va_W} (hA : zin w0 = A) (hQ : MQ below (muQ D post w1 w0) args s 0 0 A = Q) (hx : p.tables.exec = Jvm.exec) (hb : c.code = cc) (hr : meth.sig.returnType = some .boolean) (hlocks : meth.locks = false) {v : Int32} {P : Prop} (hv : v = z1 P) (u : S) (hP : va_P D vwCl (w1 u) H) (hS : va_S A s.heap H locs) (hp : post (some (.int (z1 P))) u) (hdg : decode cc pc = .ok (.ireturn, 1)) : W p l e R s m args below meth c H locs 0 0 Q (F0 m pc ls [.int v]) := by
  subst hQ
  subst hA
  subst hv
  exact W.zret hx hb hr (z1_nar P) (fun t ht _ => ⟨⟨_, u, rfl, hp, by rw [ht]; exact hP⟩, hS.F ht⟩) hS.2.2 hdg hlocks
theorem mu_lret {S : Type} {post : Option Value → S → Prop} {w1 : S → va_W} (hA : zin w0 = A) (hQ : MQ below (muQ D post w1 w0) args s 0 0 A = Q) (hx : p.tables.exec = Jvm.exec) (hb : c.code = cc) (hr : meth.sig.returnType = some .long) (hlocks : meth.locks = false) {v : Int64} (u : S) (hP : va_P D vwCl (w1 u) H) (hS : va_S A s.heap H locs) (hp : post (some (.long v)) u) (hdg : decode cc pc = .ok (.lreturn, 1)) : W p l e R s m args below meth c H locs 0 0 Q (F0 m pc ls [.long v]) := by
  subst hQ
  subst hA
  exact W.lret hx hb hr (fun t ht _ => ⟨⟨_, u, rfl, hp, by rw [ht]; exact hP⟩, hS.F ht⟩) hS.2.2 hdg hlocks
theorem mu_dret {S : Type} {post : Option Value → S → Prop} {w1 : S → va_W} (hA : zin w0 = A) (hQ : MQ below (muQ D post w1 w0) args s 0 0 A = Q) (hx : p.tables.exec = Jvm.exec) (hb : c.code = cc) (hr : meth.sig.returnType = some .double) (hlocks : meth.locks = false) {v : UInt64} (u : S) (hP : va_P D vwCl (w1 u) H) (hS : va_S A s.heap H locs) (hp : post (some (.double v)) u) (hdg : decode cc pc = .ok (.dreturn, 1)) : W p l e R s m args below meth c H locs 0 0 Q (F0 m pc ls [.double v]) := by
  subst hQ
  subst hA
  exact W.dret hx hb hr (fun t ht _ => ⟨⟨_, u, rfl, hp, by rw [ht]; exact hP⟩, hS.F ht⟩) hS.2.2 hdg hlocks
theorem mu_vret {S : Type} {post : Option Value → S → Prop} {w1 : S → va_W} (hA : zin w0 = A) (hQ : MQ below (muQ D post w1 w0) args s 0 0 A = Q) (hx : p.tables.exec = Jvm.exec) (hb : c.code = cc) (hr : meth.sig.returnType = none) (hlocks : meth.locks = false) (u : S) (hP : va_P D vwCl (w1 u) H) (hS : va_S A s.heap H locs) (hp : post none u) (hdg : decode cc pc = .ok (.return_, 1)) : W p l e R s m args below meth c H locs 0 0 Q (F0 m pc ls []) := by
  subst hQ
  subst hA
  exact W.vret hx hb hr (fun t ht _ => ⟨⟨_, u, rfl, hp, by rw [ht]; exact hP⟩, hS.F ht⟩) hS.2.2 hdg hlocks
theorem z_copy {index : Nat} (hx : p.tables.exec = Jvm.exec) (hb : c.code = cc) (hml : c.maxLocals = ls.size) (hown : s.vm.findClass own = some m.cls) (hlink : (Cond.methodLink own index arraycopyName).before args s = true) (hnat : (Cond.native arraycopyName).before args s = true) (hstat : (Cond.static arraycopyName).before args s = true) (hini : (Cond.initialized "java/lang/System").before args s = true)
    (hK : va_K D vwCl tys s) (hP : va_P D vwCl ws H) {ads : List Nat} (hD : zDD A ads) (hads : ws.map Prod.fst = ads) (hS : va_S A H0 H locs) (q0 q1 t0 : Nat) {a0 : Nat} {cA : ClassId} {n0 n1 : Nat} {f g : Nat → Int32} (ha0 : ws[q0]? = some (a0, .inl (cA, n0, .inl f))) (ha1 : ws[q1]? = some (a, .inl (cA, n1, .inl g))) (ht : tys[t0]? = some (cA, .int))
    {sp dp k : Nat} (h1 : sp < 2 ^ 31) (h2 : dp < 2 ^ 31) (h3 : k < 2 ^ 31) (h4 : sp + k ≤ n0) (h5 : dp + k ≤ n1)
    (hframes : 1 ≤ R.frames) (hlocals : (rest.map fun v => v.category).sum + (nativeFrameWords "java/lang/System" "arraycopy" 5 + 11) ≤ R.locals) (hdg : decode cc pc = .ok (.invokestatic index, 3))
    (kk : ∀ (H1 : Heap) (locs1 : List Loc), va_P D vwCl (ws.set q1 (a, .inl (cA, n1, .inl (va_cpy f g sp dp k)))) H1 → va_S A H0 H1 locs1 → W p l e R s m args below meth c H1 locs1 cells slots Q (F0 m (pc + 3) ls rest)) : W p l e R s m args below meth c H locs cells slots Q (F0 m pc ls (.int (nI k) :: .int (nI dp) :: .ref a :: .int (nI sp) :: .ref a0 :: rest)) := by
  refine va_copyi hx hb hml hown hlink hnat hstat hini hK hP (hD.to hads) hS q0 q1 t0 t0 ha0 ha1 ht ht rfl (nI_pos h1) (nI_pos h2) (nI_pos h3) (by rw [nI_clamp h1, nI_clamp h3]; exact h4) (by rw [nI_clamp h2, nI_clamp h3]; exact h5) (fun i _ => rfl) hframes hlocals hdg (fun H1 locs1 p1 _ p3 => ?_)
  rw [nI_clamp h1, nI_clamp h2, nI_clamp h3] at p1
  exact kk H1 locs1 p1 p3
theorem z_copyN {index : Nat} (hx : p.tables.exec = Jvm.exec) (hb : c.code = cc) (hml : c.maxLocals = ls.size) (hown : s.vm.findClass own = some m.cls) (hlink : (Cond.methodLink own index arraycopyName).before args s = true) (hnat : (Cond.native arraycopyName).before args s = true) (hstat : (Cond.static arraycopyName).before args s = true) (hini : (Cond.initialized "java/lang/System").before args s = true)
    (hK : va_K D vwCl tys s) (hP : va_P D vwCl ws H) {ads : List Nat} (hD : zDD A ads) (hads : ws.map Prod.fst = ads) (hS : va_S A H0 H locs) (q0 q1 t0 : Nat) {a0 : Nat} {cA : ClassId} {n0 n1 : Nat} {f g : Nat → Nat} (ha0 : ws[q0]? = some (a0, .inl (cA, n0, .inl (nA f)))) (ha1 : ws[q1]? = some (a, .inl (cA, n1, .inl (nA g)))) (ht : tys[t0]? = some (cA, .int))
    {sp dp k : Nat} (h1 : sp < 2 ^ 31) (h2 : dp < 2 ^ 31) (h3 : k < 2 ^ 31) (h4 : sp + k ≤ n0) (h5 : dp + k ≤ n1)
    (hframes : 1 ≤ R.frames) (hlocals : (rest.map fun v => v.category).sum + (nativeFrameWords "java/lang/System" "arraycopy" 5 + 11) ≤ R.locals) (hdg : decode cc pc = .ok (.invokestatic index, 3))
    (kk : ∀ (H1 : Heap) (locs1 : List Loc), va_P D vwCl (ws.set q1 (a, .inl (cA, n1, .inl (nA (va_cpy f g sp dp k))))) H1 → va_S A H0 H1 locs1 → W p l e R s m args below meth c H1 locs1 cells slots Q (F0 m (pc + 3) ls rest)) : W p l e R s m args below meth c H locs cells slots Q (F0 m pc ls (.int (nI k) :: .int (nI dp) :: .ref a :: .int (nI sp) :: .ref a0 :: rest)) := by
  refine z_copy hx hb hml hown hlink hnat hstat hini hK hP hD hads hS q0 q1 t0 ha0 ha1 ht h1 h2 h3 h4 h5 hframes hlocals hdg (fun H1 locs1 p1 p3 => ?_)
  rw [cpy_nA] at p1
  exact kk H1 locs1 p1 p3
end ZROWS
end
section
/-! how a message is parted: one word's choice, and what the rows hold from a word on -/
noncomputable def zif {α : Type} (P : Prop) (a b : α) : α := @ite _ P (Classical.propDecidable P) a b
theorem zif_t {α : Type} {P : Prop} {a b : α} (h : P) : zif P a b = a := by unfold zif; exact if_pos h
theorem zif_f {α : Type} {P : Prop} {a b : α} (h : ¬ P) : zif P a b = b := by unfold zif; exact if_neg h
def tib (F lf : Nat → Nat) (w m : Nat) : Prop := F (w + m) + 1 < F w ∨ (F (w + m) + 1 = F w ∧ lf w < m)
def stp (F : Nat → Nat) (w m : Nat) (code : Int32) (x : Nat × Nat × Int32) : Nat × Nat × Int32 := if F (w + m) + 1 < x.1 ∨ (F (w + m) + 1 = x.1 ∧ x.2.1 < m) then (F (w + m) + 1, m, code) else x
noncomputable def cdo (mt : Nat → Nat → Prop) (Lf F : Nat → Nat) (w : Nat) : Nat → Nat × Nat × Int32
  | 0 => (F (w + 1) + 1, 1, -1)
  | c + 1 => zif (mt c w) (stp F w (Lf c) (nI c) (cdo mt Lf F w c)) (cdo mt Lf F w c)
noncomputable def res (mt : Nat → Nat → Prop) (Lf : Nat → Nat) (k : Nat) (mn : Nat → Prop) (nl : Nat) (F : Nat → Nat) (w : Nat) : Nat × Nat × Int32 := zif (mn w) (stp F w nl (nI 8) (cdo mt Lf F w k)) (cdo mt Lf F w k)
def Bd (n w : Nat) (F : Nat → Nat) (x : Nat × Nat × Int32) : Prop := x.1 ≤ F (w + 1) + 1 ∧ 1 ≤ x.2.1 ∧ w + x.2.1 ≤ n ∧ x.2.1 ≤ 4
theorem stp_b {n w m : Nat} {F : Nat → Nat} {code : Int32} {x : Nat × Nat × Int32} (h : Bd n w F x) (hm : 1 ≤ m ∧ m ≤ 4 ∧ w + m ≤ n) : Bd n w F (stp F w m code x) := by
  unfold stp
  by_cases q : F (w + m) + 1 < x.1 ∨ (F (w + m) + 1 = x.1 ∧ x.2.1 < m)
  · rw [if_pos q]
    obtain ⟨h1, h2, h3, h4⟩ := h
    refine ⟨?_, hm.1, hm.2.2, hm.2.1⟩
    show F (w + m) + 1 ≤ F (w + 1) + 1
    rcases q with q | q
    · omega
    · omega
  · rw [if_neg q]; exact h
/-- what matches is in the message -/
def MB (mt : Nat → Nat → Prop) (Lf : Nat → Nat) (k : Nat) (mn : Nat → Prop) (nl n : Nat) : Prop := (∀ j, j < n → ∀ c, c < k → mt c j → 1 ≤ Lf c ∧ Lf c ≤ 4 ∧ j + Lf c ≤ n) ∧ ∀ j, j < n → mn j → 1 ≤ nl ∧ nl ≤ 4 ∧ j + nl ≤ n
theorem cdo_b {mt : Nat → Nat → Prop} {Lf F : Nat → Nat} {k nl n w : Nat} {mn : Nat → Prop} (hM : MB mt Lf k mn nl n) (hw : w < n) : ∀ c, c ≤ k → Bd n w F (cdo mt Lf F w c) := by
  intro c
  induction c with
  | zero => intro _; exact ⟨Nat.le_refl _, Nat.le_refl _, hw, by show 1 ≤ 4; decide⟩
  | succ c ih =>
    intro hc
    unfold cdo
    by_cases q : mt c w
    · rw [zif_t q]; exact stp_b (ih (by omega)) (hM.1 w hw c (by omega) q)
    · rw [zif_f q]; exact ih (by omega)
theorem res_b {mt : Nat → Nat → Prop} {Lf F : Nat → Nat} {k nl n w : Nat} {mn : Nat → Prop} (hM : MB mt Lf k mn nl n) (hw : w < n) : Bd n w F (res mt Lf k mn nl F w) := by
  unfold res
  by_cases q : mn w
  · rw [zif_t q]; exact stp_b (cdo_b hM hw k (Nat.le_refl k)) (hM.2 w hw q)
  · rw [zif_f q]; exact cdo_b hM hw k (Nat.le_refl k)
theorem stp_c {F G : Nat → Nat} {w m : Nat} {code : Int32} {x : Nat × Nat × Int32} (h : F (w + m) = G (w + m)) : stp F w m code x = stp G w m code x := by unfold stp; rw [h]
theorem cdo_c {mt : Nat → Nat → Prop} {Lf F G : Nat → Nat} {k nl n w : Nat} {mn : Nat → Prop} (hM : MB mt Lf k mn nl n) (hw : w < n) (h : ∀ j, w < j → F j = G j) : ∀ c, c ≤ k → cdo mt Lf F w c = cdo mt Lf G w c := by
  intro c
  induction c with
  | zero => intro _; unfold cdo; rw [h (w + 1) (by omega)]
  | succ c ih =>
    intro hc
    unfold cdo
    rw [ih (by omega)]
    by_cases q : mt c w
    · rw [zif_t q, zif_t q]
      have := hM.1 w hw c (by omega) q
      exact stp_c (h _ (by omega))
    · rw [zif_f q, zif_f q]
theorem res_c {mt : Nat → Nat → Prop} {Lf F G : Nat → Nat} {k nl n w : Nat} {mn : Nat → Prop} (hM : MB mt Lf k mn nl n) (hw : w < n) (h : ∀ j, w < j → F j = G j) : res mt Lf k mn nl F w = res mt Lf k mn nl G w := by
  unfold res
  rw [cdo_c hM hw h k (Nat.le_refl k)]
  by_cases q : mn w
  · rw [zif_t q, zif_t q]
    have := hM.2 w hw q
    exact stp_c (h _ (by omega))
  · rw [zif_f q, zif_f q]
def InnI (mt : Nat → Nat → Prop) (Lf F0 lf0 : Nat → Nat) (C0 : Nat → Int32) (w c : Nat) (f1 lf1 : Nat → Nat) (C1 : Nat → Int32) : Prop := (∀ j, j ≠ w → f1 j = F0 j ∧ lf1 j = lf0 j ∧ C1 j = C0 j) ∧ (f1 w, lf1 w, C1 w) = cdo mt Lf F0 w c
theorem inn_0 {mt : Nat → Nat → Prop} {Lf F0 lf0 : Nat → Nat} {C0 : Nat → Int32} {w : Nat} : InnI mt Lf F0 lf0 C0 w 0 (updN F0 w (F0 (w + 1) + 1)) (updN lf0 w 1) (upd C0 w (-1)) :=
  ⟨fun j hj => ⟨updN_n _ hj, updN_n _ hj, pk_un hj⟩, by rw [updN_s, updN_s, pk_us]; rfl⟩
theorem inn_skip {mt : Nat → Nat → Prop} {Lf F0 lf0 f1 lf1 : Nat → Nat} {C0 C1 : Nat → Int32} {w c : Nat} (h : InnI mt Lf F0 lf0 C0 w c f1 lf1 C1) (hm : ¬ mt c w) : InnI mt Lf F0 lf0 C0 w (c + 1) f1 lf1 C1 :=
  ⟨h.1, by rw [h.2]; unfold cdo; rw [zif_f hm]; cases c <;> rfl⟩
/-- behind takeIfBetter -/
def Tk (f1 lf1 : Nat → Nat) (C1 : Nat → Int32) (w m : Nat) (code : Int32) (f2 lf2 : Nat → Nat) (C2 : Nat → Int32) : Prop :=
  (tib f1 lf1 w m ∧ f2 = updN f1 w (f1 (w + m) + 1) ∧ lf2 = updN lf1 w m ∧ C2 = upd C1 w code) ∨ (¬ tib f1 lf1 w m ∧ f2 = f1 ∧ lf2 = lf1 ∧ C2 = C1)
theorem tk_stp {F0 lf0 f1 lf1 f2 lf2 : Nat → Nat} {C0 C1 C2 : Nat → Int32} {w m : Nat} {code : Int32} {x : Nat × Nat × Int32} (h : ∀ j, j ≠ w → f1 j = F0 j ∧ lf1 j = lf0 j ∧ C1 j = C0 j) (hx : (f1 w, lf1 w, C1 w) = x) (hm : 1 ≤ m) (ht : Tk f1 lf1 C1 w m code f2 lf2 C2) :
    (∀ j, j ≠ w → f2 j = F0 j ∧ lf2 j = lf0 j ∧ C2 j = C0 j) ∧ (f2 w, lf2 w, C2 w) = stp F0 w m code x := by
  have h0 := (h (w + m) (by omega)).1
  subst hx
  unfold stp
  rcases ht with ⟨q, rfl, rfl, rfl⟩ | ⟨q, rfl, rfl, rfl⟩
  · refine ⟨fun j hj => by rw [updN_n _ hj, updN_n _ hj, pk_un hj]; exact h j hj, ?_⟩
    rw [updN_s, updN_s, pk_us, ← h0]
    exact (if_pos q).symm
  · refine ⟨h, ?_⟩
    rw [← h0]
    exact (if_neg q).symm
theorem inn_take {mt : Nat → Nat → Prop} {Lf F0 lf0 f1 lf1 f2 lf2 : Nat → Nat} {C0 C1 C2 : Nat → Int32} {w c : Nat} (h : InnI mt Lf F0 lf0 C0 w c f1 lf1 C1) (hm : mt c w) (h1 : 1 ≤ Lf c) (ht : Tk f1 lf1 C1 w (Lf c) (nI c) f2 lf2 C2) : InnI mt Lf F0 lf0 C0 w (c + 1) f2 lf2 C2 := by
  obtain ⟨a, b⟩ := tk_stp h.1 h.2 h1 ht
  refine ⟨a, ?_⟩
  rw [b]
  conv => rhs; unfold cdo
  rw [zif_t hm]
def OutI (mt : Nat → Nat → Prop) (Lf : Nat → Nat) (k : Nat) (mn : Nat → Prop) (nl n : Nat) (F lf : Nat → Nat) (C : Nat → Int32) (w : Nat) : Prop := F n = 0 ∧ (∀ j, w ≤ j → j < n → (F j, lf j, C j) = res mt Lf k mn nl F j) ∧ (∀ j, w ≤ j → j ≤ n → F j ≤ n - j) ∧ ∀ j, w ≤ j → j < n → 1 ≤ lf j ∧ j + lf j ≤ n ∧ lf j ≤ 4
theorem out_0 {mt : Nat → Nat → Prop} {Lf : Nat → Nat} {k : Nat} {mn : Nat → Prop} {nl n : Nat} {F lf : Nat → Nat} {C : Nat → Int32} : OutI mt Lf k mn nl n (updN F n 0) lf C n :=
  ⟨updN_s _ _ _, fun j h1 h2 => by omega, fun j h1 h2 => by rw [show j = n by omega, updN_s]; omega, fun j h1 h2 => by omega⟩
theorem out_step {mt : Nat → Nat → Prop} {Lf : Nat → Nat} {k : Nat} {mn : Nat → Prop} {nl n : Nat} {F lf f1 lf1 : Nat → Nat} {C C1 : Nat → Int32} {w : Nat} (hM : MB mt Lf k mn nl n) (hw : w < n) (h : OutI mt Lf k mn nl n F lf C (w + 1))
    (ho : ∀ j, j ≠ w → f1 j = F j ∧ lf1 j = lf j ∧ C1 j = C j) (hr : (f1 w, lf1 w, C1 w) = res mt Lf k mn nl F w) : OutI mt Lf k mn nl n f1 lf1 C1 w := by
  obtain ⟨h1, h2, h3, h4⟩ := h
  have hb : Bd n w F (res mt Lf k mn nl F w) := res_b hM hw
  rw [← hr] at hb
  obtain ⟨b1, b2, b3, b4⟩ := hb
  dsimp only at b1 b2 b3 b4
  refine ⟨by rw [(ho n (by omega)).1]; exact h1, fun j hj hn => ?_, fun j hj hn => ?_, fun j hj hn => ?_⟩
  · have hc : res mt Lf k mn nl f1 j = res mt Lf k mn nl F j := res_c hM hn (fun i hi => (ho i (by omega)).1)
    rw [hc]
    by_cases e : j = w
    · subst e; exact hr
    · obtain ⟨a1, a2, a3⟩ := ho j e
      rw [a1, a2, a3]
      exact h2 j (by omega) hn
  · by_cases e : j = w
    · subst e
      have := h3 (j + 1) (by omega) (by omega)
      omega
    · rw [(ho j e).1]; exact h3 j (by omega) hn
  · by_cases e : j = w
    · subst e; exact ⟨b2, b3, b4⟩
    · rw [(ho j e).2.1]; exact h4 j (by omega) hn
theorem out_cdo {mt : Nat → Nat → Prop} {Lf : Nat → Nat} {k : Nat} {mn : Nat → Prop} {nl n : Nat} {F lf f1 lf1 : Nat → Nat} {C C1 : Nat → Int32} {w : Nat} (hM : MB mt Lf k mn nl n) (hw : w < n) (h : OutI mt Lf k mn nl n F lf C (w + 1)) (hi : InnI mt Lf F lf C w k f1 lf1 C1) (hn : ¬ mn w) : OutI mt Lf k mn nl n f1 lf1 C1 w :=
  out_step hM hw h hi.1 (by rw [hi.2]; unfold res; rw [zif_f hn])
theorem out_new {mt : Nat → Nat → Prop} {Lf : Nat → Nat} {k : Nat} {mn : Nat → Prop} {nl n : Nat} {F lf f1 lf1 f2 lf2 : Nat → Nat} {C C1 C2 : Nat → Int32} {w : Nat} (hM : MB mt Lf k mn nl n) (hw : w < n) (h : OutI mt Lf k mn nl n F lf C (w + 1)) (hi : InnI mt Lf F lf C w k f1 lf1 C1) (hn : mn w) (ht : Tk f1 lf1 C1 w nl (nI 8) f2 lf2 C2) : OutI mt Lf k mn nl n f2 lf2 C2 w := by
  obtain ⟨a, b⟩ := tk_stp hi.1 hi.2 (hM.2 w hw hn).1 ht
  refine out_step hM hw h a ?_
  rw [b]
  unfold res
  rw [zif_t hn]
/-- the numbers stay small while a word's choice is made -/
theorem inn_b {mt : Nat → Nat → Prop} {Lf : Nat → Nat} {k : Nat} {mn : Nat → Prop} {nl n : Nat} {F lf f1 lf1 : Nat → Nat} {C C1 : Nat → Int32} {w c : Nat} (hM : MB mt Lf k mn nl n) (hw : w < n) (hn : n ≤ 24) (hc : c ≤ k) (h : OutI mt Lf k mn nl n F lf C (w + 1)) (hi : InnI mt Lf F lf C w c f1 lf1 C1) : f1 w ≤ 25 ∧ lf1 w ≤ 4 ∧ ∀ m, 1 ≤ m → w + m ≤ n → f1 (w + m) ≤ 24 := by
  have hb : Bd n w F (cdo mt Lf F w c) := cdo_b hM hw c hc
  rw [← hi.2] at hb
  obtain ⟨b1, b2, b3, b4⟩ := hb
  dsimp only at b1 b2 b3 b4
  have h3 := h.2.2.1 (w + 1) (by omega) (by omega)
  refine ⟨by omega, b4, fun m hm hmn => ?_⟩
  rw [(hi.1 (w + m) (by omega)).1]
  have := h.2.2.1 (w + m) (by omega) hmn
  omega
def posN (lf : Nat → Nat) : Nat → Nat
  | 0 => 0
  | g + 1 => posN lf g + lf (posN lf g)
/-- how many groups, and where each begins -/
def StI (lf : Nat → Nat) (n : Nat) (ps : Nat → Nat) (cnt : Nat) : Prop := (∀ g, g < cnt → ps g = posN lf g ∧ posN lf g < n) ∧ posN lf cnt = n ∧ cnt ≤ n
/-- a code's words stand there -/
def mtC (t : Nat → Nat) (n : Nat) (T : Nat → Int32) (Lf : Nat → Nat) (wo : Int32) (c w : Nat) : Prop := ¬ nI c = wo ∧ w + Lf c ≤ n ∧ ∀ p, p < Lf c → nI (t (w + p)) = T (c * 4 + p)
def mnC (t : Nat → Nat) (n ns nl : Nat) (w : Nat) : Prop := 0 < nl ∧ w + nl ≤ n ∧ ∀ p, p < nl → nI (t (ns + p)) = nI (t (w + p))
theorem mb_C {t : Nat → Nat} {n : Nat} {T : Nat → Int32} {Lf : Nat → Nat} {wo : Int32} {k ns nl : Nat} (hL : ∀ c, c < k → 2 ≤ Lf c ∧ Lf c ≤ 4) (hnew : nl = 0 ∨ (2 ≤ nl ∧ nl ≤ 4 ∧ ns + nl ≤ n)) : MB (mtC t n T Lf wo) Lf k (mnC t n ns nl) nl n :=
  ⟨fun j _ c hc h => ⟨by have := hL c hc; omega, (hL c hc).2, h.2.1⟩, fun j _ h => ⟨h.1, by have := h.1; omega, h.2.1⟩⟩
/-- the class's parting of a message -/
def PartC (t : Nat → Nat) (n : Nat) (T : Nat → Int32) (Lf : Nat → Nat) (k : Nat) (wo : Int32) (ns nl : Nat) (f lf : Nat → Nat) (C : Nat → Int32) (ps : Nat → Nat) (cnt : Nat) : Prop :=
  OutI (mtC t n T Lf wo) Lf k (mnC t n ns nl) nl n f lf C 0 ∧ StI lf n ps cnt
end
section
/-! the line: repeats and losses of one group, of many; the first garbled one; sums and folds -/
theorem gB_d (k : Nat) : ∃ d, d < 10 ∧ (7 * d + k) % 10 = 9 := by
  rcases (by omega : k % 10 = 0 ∨ k % 10 = 1 ∨ k % 10 = 2 ∨ k % 10 = 3 ∨ k % 10 = 4 ∨ k % 10 = 5 ∨ k % 10 = 6 ∨ k % 10 = 7 ∨ k % 10 = 8 ∨ k % 10 = 9) with h | h | h | h | h | h | h | h | h | h
  · exact ⟨7, by omega, by omega⟩
  · exact ⟨4, by omega, by omega⟩
  · exact ⟨1, by omega, by omega⟩
  · exact ⟨8, by omega, by omega⟩
  · exact ⟨5, by omega, by omega⟩
  · exact ⟨2, by omega, by omega⟩
  · exact ⟨9, by omega, by omega⟩
  · exact ⟨6, by omega, by omega⟩
  · exact ⟨3, by omega, by omega⟩
  · exact ⟨0, by omega, by omega⟩
theorem gB_near {q : Nat} (hq : q ≤ 9) (s : Nat) : ∃ j, 1 ≤ j ∧ j ≤ 20 ∧ gB q (s + j) := by
  obtain ⟨k, hk⟩ : ∃ k, k = s / 10 + 1 := ⟨_, rfl⟩
  obtain ⟨d, hd, h9⟩ := gB_d k
  refine ⟨10 * k + d - s, by omega, by omega, ?_⟩
  unfold gB
  have h1 : s + (10 * k + d - s) = 10 * k + d := by omega
  have h2 : (10 * k + d) / 10 = k := by omega
  rw [h1, h2]
  omega
noncomputable def rpt (q s : Nat) : Nat := zif (gB q (s + 1)) (zif (gB q (s + 2)) (zif (gB q (s + 3)) 3 2) 1) 0
noncomputable def gst (q s : Nat) : Nat := zif (gB q (s + 1)) 1 0
noncomputable def lst (q s : Nat) : Nat := zif (gB q (s + 1) ∧ gB q (s + 2) ∧ gB q (s + 3) ∧ gB q (s + 4)) 1 0
theorem rpt_le (q s : Nat) : rpt q s ≤ 3 := by
  unfold rpt zif
  split
  · split
    · split <;> decide
    · decide
  · decide
theorem gst_le (q s : Nat) : gst q s ≤ 1 := by unfold gst zif; split <;> decide
theorem lst_le (q s : Nat) : lst q s ≤ 1 := by unfold lst zif; split <;> decide
theorem rpt_of {q s r : Nat} (hr : r ≤ 3) (h : ∀ j, j < r → gB q (s + 1 + j)) (he : r = 3 ∨ ¬ gB q (s + 1 + r)) : rpt q s = r := by
  unfold rpt
  rcases (by omega : r = 0 ∨ r = 1 ∨ r = 2 ∨ r = 3) with rfl | rfl | rfl | rfl
  · rw [zif_f (he.resolve_left (by decide))]
  · rw [zif_t (h 0 (by decide)), zif_f (he.resolve_left (by decide))]
  · rw [zif_t (h 0 (by decide)), zif_t (h 1 (by decide)), zif_f (he.resolve_left (by decide))]
  · rw [zif_t (h 0 (by decide)), zif_t (h 1 (by decide)), zif_t (h 2 (by decide))]
theorem lst_0 {q s r : Nat} (hr : r ≤ 3) (he : ¬ gB q (s + 1 + r)) : lst q s = 0 := by
  unfold lst
  refine zif_f (fun ⟨h1, h2, h3, h4⟩ => he ?_)
  rcases (by omega : r = 0 ∨ r = 1 ∨ r = 2 ∨ r = 3) with rfl | rfl | rfl | rfl
  · exact h1
  · exact h2
  · exact h3
  · exact h4
theorem lst_1 {q s r : Nat} (hr : r = 3) (h : ∀ j, j < r → gB q (s + 1 + j)) (he : gB q (s + 1 + r)) : lst q s = 1 := by
  subst hr
  exact zif_t ⟨h 0 (by decide), h 1 (by decide), h 2 (by decide), he⟩
noncomputable def seN (q s : Nat) : Nat → Nat
  | 0 => s
  | g + 1 => seN q s g + 1 + rpt q (seN q s g)
noncomputable def gfN (q s : Nat) : Nat → Nat
  | 0 => 0
  | g + 1 => gfN q s g + gst q (seN q s g)
noncomputable def akN (q s : Nat) : Nat → Nat
  | 0 => 0
  | g + 1 => akN q s g + rpt q (seN q s g)
noncomputable def gnN (q s : Nat) : Nat → Nat
  | 0 => 0
  | g + 1 => gnN q s g + lst q (seN q s g)
theorem seN_le (q s : Nat) : ∀ g, seN q s g ≤ s + 4 * g := by
  intro g
  induction g with
  | zero => exact Nat.le_refl _
  | succ g ih =>
    show seN q s g + 1 + rpt q (seN q s g) ≤ _
    have := rpt_le q (seN q s g)
    omega
theorem gnN_le (q s : Nat) : ∀ g, gnN q s g ≤ g := by
  intro g
  induction g with
  | zero => exact Nat.le_refl _
  | succ g ih =>
    show gnN q s g + lst q (seN q s g) ≤ _
    have := lst_le q (seN q s g)
    omega
noncomputable def qwF (s g : Nat) : Nat → Nat → Int32
  | 0, _ => -1
  | f + 1, w => zif (gnN w s g = 0) (nI w) (qwF s g f (w + 1))
theorem qw_t {s g w : Nat} (h : gnN w s g = 0) (hw : w ≤ 9) : qwF s g (10 - w) w = nI w := by
  rw [show 10 - w = (9 - w) + 1 by omega]
  exact zif_t h
theorem qw_f {s g w : Nat} (h : 0 < gnN w s g) (hw : w ≤ 9) : qwF s g (10 - w) w = qwF s g (10 - (w + 1)) (w + 1) := by
  rw [show 10 - w = (10 - (w + 1)) + 1 by omega]
  exact zif_f (by omega)
noncomputable def utN (q s : Nat) : Nat := Classical.epsilon (fun i => 1 ≤ i ∧ gB q (s + i) ∧ ∀ j, 1 ≤ j → j < i → ¬ gB q (s + j))
theorem utN_eq {q s i : Nat} (h1 : 1 ≤ i) (h2 : gB q (s + i)) (h3 : ∀ j, 1 ≤ j → j < i → ¬ gB q (s + j)) : i = utN q s := by
  have h := Classical.epsilon_spec (p := fun i => 1 ≤ i ∧ gB q (s + i) ∧ ∀ j, 1 ≤ j → j < i → ¬ gB q (s + j)) ⟨i, h1, h2, h3⟩
  have e : Classical.epsilon (fun i => 1 ≤ i ∧ gB q (s + i) ∧ ∀ j, 1 ≤ j → j < i → ¬ gB q (s + j)) = utN q s := rfl
  rw [e] at h
  obtain ⟨a1, a2, a3⟩ := h
  rcases Nat.lt_trichotomy i (utN q s) with z | z | z
  · exact absurd h2 (a3 i h1 z)
  · exact z
  · exact absurd a2 (h3 _ a1 z)
theorem sN_le {f : Nat → Nat} {b : Nat} : ∀ n, (∀ j, j < n → f j ≤ b) → sN f n ≤ b * n := by
  intro n
  induction n with
  | zero => intro _; exact Nat.zero_le _
  | succ n ih =>
    intro h
    have h1 := ih (fun j hj => h j (by omega))
    have h2 := h n (by omega)
    show sN f n + f n ≤ b * (n + 1)
    rw [Nat.mul_succ]
    omega
theorem sN_c {f g : Nat → Nat} : ∀ n, (∀ j, j < n → f j = g j) → sN f n = sN g n := by
  intro n
  induction n with
  | zero => intro _; rfl
  | succ n ih =>
    intro h
    show sN f n + f n = sN g n + g n
    rw [ih (fun j hj => h j (by omega)), h n (by omega)]
theorem wc_le (x : Nat) : wc x ≤ 2 := by unfold wc; split <;> decide
def costN (n x : Nat) : Nat := if n = 0 then 0 else 20 + 3 * (x - 10)
theorem z_maxs {x : Nat} (h : x < 2 ^ 30) : (if nI 0 < nI x - nI 10 then nI x - nI 10 else nI 0) = nI (x - 10) := by
  by_cases q : 10 ≤ x
  · rw [pk_sub q]
    exact z_max0 (by omega)
  · have hneg : nI x - nI 10 < 0 := pk_sneg (by decide) (by omega)
    have h2 : ¬ nI 0 < nI x - nI 10 := fun z => by
      have h3 : nI x - nI 10 < nI 0 := hneg
      exact absurd (Int32.lt_trans z h3) (by decide)
    rw [if_neg h2, show x - 10 = 0 by omega]
/-- a word or a code, as it is counted -/
noncomputable def ctW (C : Nat → Int32) (ps t : Nat → Nat) (g : Nat) : Nat := zif (C (ps g) = -1) (wc (t (ps g))) 1
theorem ctW_le (C : Nat → Int32) (ps t : Nat → Nat) (g : Nat) : ctW C ps t g ≤ 2 := by
  unfold ctW zif
  split
  · exact wc_le _
  · decide
def wn2 (d x : Int64) : Int64 := d * 31 + x
def fL (f : Nat → Int64 → Int64) (d : Int64) : Nat → Int64
  | 0 => d
  | i + 1 => f i (fL f d i)
end
section
/-! what the office's questions answer, in terms of partings -/
def Gn (t : Nat → Nat) (n : Nat) (T : Nat → Int32) (Lf : Nat → Nat) (k : Nat) (wo : Int32) (ns nl : Nat) (P : Nat → Prop) : Prop := ∃ (f lf : Nat → Nat) (C : Nat → Int32) (ps : Nat → Nat) (g : Nat), PartC t n T Lf k wo ns nl f lf C ps g ∧ P g
def UC (t : Nat → Nat) (n : Nat) (T : Nat → Int32) (Lf : Nat → Nat) (k cnt : Nat) (r : Int32) : Prop :=
  (∃ c, c < k ∧ r = nI c ∧ Gn t n T Lf k (nI c) 0 0 (fun g => g ≤ cnt) ∧ ∀ j, j < c → Gn t n T Lf k (nI j) 0 0 (fun g => cnt < g)) ∨ (r = -1 ∧ ∀ j, j < k → Gn t n T Lf k (nI j) 0 0 (fun g => cnt < g))
def Nn (t : Nat → Nat) (n : Nat) (T : Nat → Int32) (Lf : Nat → Nat) (k m s g : Nat) : Prop := Gn t n T Lf k (-1) s m (fun z => z = g)
def BI (t : Nat → Nat) (n : Nat) (T : Nat → Int32) (Lf : Nat → Nat) (k m i : Nat) (bb : Int32) (fw : Nat) : Prop :=
  (i = 0 ∧ bb = -1 ∧ fw = 0) ∨ ∃ s, s < i ∧ s + m ≤ n ∧ s ≤ 24 ∧ bb = nI s ∧ fw ≤ 24 ∧ Nn t n T Lf k m s fw ∧ (∀ j, j < s → ∃ g, Nn t n T Lf k m j g ∧ fw < g) ∧ ∀ j, s < j → j < i → ∃ g, Nn t n T Lf k m j g ∧ fw ≤ g
def BS (t : Nat → Nat) (n : Nat) (T : Nat → Int32) (Lf : Nat → Nat) (k m : Nat) (r : Int32) : Prop :=
  (n < m ∧ r = -1) ∨ ∃ s fw, s + m ≤ n ∧ r = nI s ∧ Nn t n T Lf k m s fw ∧ (∀ j, j < s → ∃ g, Nn t n T Lf k m j g ∧ fw < g) ∧ ∀ j, s < j → j + m ≤ n → ∃ g, Nn t n T Lf k m j g ∧ fw ≤ g
theorem nI_m1 {s : Nat} (h : s < 2 ^ 31) : ¬ nI s = -1 := fun q => nI_pos h (by rw [q]; decide)
theorem bi_0 {t : Nat → Nat} {n : Nat} {T : Nat → Int32} {Lf : Nat → Nat} {k m : Nat} : BI t n T Lf k m 0 (-1) 0 := Or.inl ⟨rfl, rfl, rfl⟩
theorem bi_b {t : Nat → Nat} {n : Nat} {T : Nat → Int32} {Lf : Nat → Nat} {k m i : Nat} {bb : Int32} {fw : Nat} (h : BI t n T Lf k m i bb fw) : fw ≤ 24 := by
  rcases h with ⟨-, -, h⟩ | ⟨s, -, -, -, -, h, -⟩
  · omega
  · exact h
theorem bi_1 {t : Nat → Nat} {n : Nat} {T : Nat → Int32} {Lf : Nat → Nat} {k m i : Nat} {bb : Int32} {fw g : Nat} (h : BI t n T Lf k m i bb fw) (hb : bb = -1) (hN : Nn t n T Lf k m i g) (hg : g ≤ 24) (hi : i + m ≤ n) : BI t n T Lf k m (i + 1) (nI i) g := by
  rcases h with ⟨rfl, -, -⟩ | ⟨s, -, -, h3, h4, -⟩
  · exact Or.inr ⟨0, by omega, hi, by omega, rfl, hg, hN, fun j hj => absurd hj (Nat.not_lt_zero _), fun j h1 h2 => by omega⟩
  · exact absurd (h4.symm.trans hb) (nI_m1 (by omega))
theorem bi_2 {t : Nat → Nat} {n : Nat} {T : Nat → Int32} {Lf : Nat → Nat} {k m i : Nat} {bb : Int32} {fw g : Nat} (h : BI t n T Lf k m i bb fw) (hb : ¬ bb = -1) (hN : Nn t n T Lf k m i g) (hg : g < fw) (hi : i + m ≤ n) (h24 : i ≤ 24) : BI t n T Lf k m (i + 1) (nI i) g := by
  rcases h with ⟨-, h, -⟩ | ⟨s, h1, h2, h3, h4, h5, h6, h7, h8⟩
  · exact absurd h hb
  · refine Or.inr ⟨i, by omega, hi, h24, rfl, by omega, hN, fun j hj => ?_, fun j a b => by omega⟩
    rcases (by omega : j < s ∨ j = s ∨ s < j) with z | z | z
    · obtain ⟨g', a, b⟩ := h7 j z
      exact ⟨g', a, by omega⟩
    · subst z; exact ⟨fw, h6, hg⟩
    · obtain ⟨g', a, b⟩ := h8 j z hj
      exact ⟨g', a, by omega⟩
theorem bi_3 {t : Nat → Nat} {n : Nat} {T : Nat → Int32} {Lf : Nat → Nat} {k m i : Nat} {bb : Int32} {fw g : Nat} (h : BI t n T Lf k m i bb fw) (hb : ¬ bb = -1) (hN : Nn t n T Lf k m i g) (hg : fw ≤ g) : BI t n T Lf k m (i + 1) bb fw := by
  rcases h with ⟨-, h, -⟩ | ⟨s, h1, h2, h3, h4, h5, h6, h7, h8⟩
  · exact absurd h hb
  · exact Or.inr ⟨s, by omega, h2, h3, h4, h5, h6, h7, fun j a b => by
      by_cases e : j = i
      · subst e; exact ⟨g, hN, hg⟩
      · exact h8 j a (by omega)⟩
theorem bi_e {t : Nat → Nat} {n : Nat} {T : Nat → Int32} {Lf : Nat → Nat} {k m i : Nat} {bb : Int32} {fw : Nat} (h : BI t n T Lf k m i bb fw) (hi : n < i + m) : BS t n T Lf k m bb := by
  rcases h with ⟨rfl, h, -⟩ | ⟨s, h1, h2, h3, h4, h5, h6, h7, h8⟩
  · exact Or.inl ⟨by omega, h⟩
  · exact Or.inr ⟨s, fw, h2, h4, h6, h7, fun j a b => h8 j a (by omega)⟩
noncomputable def mlN (Lf : Nat → Nat) (k : Nat) : UInt64 := if k = 0 then FP.dconst0 else FP.ddiv (FP.i2d (nI (sN Lf k))) (FP.i2d (nI k))
theorem ml_dec : ∀ a, a < 33 → ∀ b, b < 9 → 0 < b → FP.ddiv (FP.i2d (nI a)) (FP.i2d (nI b)) &&& 0x7fffffffffffffff ≤ 0x7ff0000000000000 := by decide +kernel
theorem ml_nan {a b : Nat} (ha : a < 33) (hb : b < 9) (h0 : 0 < b) : vf_n64 (FP.ddiv (FP.i2d (nI a)) (FP.i2d (nI b))) := by
  unfold vf_n64
  exact ml_dec a ha b hb h0
noncomputable def dcN (Lf : Nat → Nat) (C : Nat → Int32) (ps : Nat → Nat) (cnt : Nat) (c : Nat) (d : Int64) : Int64 := wn2 (wn2 d (nI (Lf c)).toInt64) (nI (cN (fun j => C (ps j) = nI c) cnt)).toInt64
def dwN (t : Nat → Nat) (j : Nat) (d : Int64) : Int64 := wn2 d (nI (t j)).toInt64
def dpN (C : Nat → Int32) (ps : Nat → Nat) (g : Nat) (d : Int64) : Int64 := wn2 (wn2 d (C (ps g)).toInt64) (nI (ps g)).toInt64
end
section
/-! methods that may throw, before they write: a third form of contract (VX) -/
abbrev zNames : List String := ["java/lang/RuntimeException", "java/lang/Exception"]
/-- Throwable's two statics, outside a part of the heap -/
def zT (A : Nat → Prop) (U : State) (H : Heap) : Prop := vx_Zq Bundle.tN "UNASSIGNED_STACK" Bundle.steD A U H ∧ vx_Zq Bundle.tN "SUPPRESSED_SENTINEL" Bundle.listD A U H
theorem zT.moved {A : Nat → Prop} {u U : State} {H : Heap} (hvm : u.vm.Alike U.vm) (h : zT A u H) : zT A U H := ⟨vx_Zq.moved hvm h.1, vx_Zq.moved hvm h.2⟩
theorem zT.kept {A : Nat → Prop} {U : State} {H H1 : Heap} (h : zT A U H) (hq : ∀ a : Nat, a < H.size → ¬ A a → H1[a]? = H[a]?) : zT A U H1 := ⟨h.1.kept hq, h.2.kept hq⟩
theorem zT.narrow {A B : Nat → Prop} {U : State} {H : Heap} (h : zT A U H) (hAB : ∀ q, B q → A q) : zT B U H := ⟨h.1.narrow hAB, h.2.narrow hAB⟩
def vxX (px : String → Prop) : String → State → State → Prop := fun E st t => px E ∧ st.heap.size ≤ t.heap.size ∧ ∀ q : Nat, q < st.heap.size → t.heap[q]? = st.heap[q]?
def VX (l : Launch) (y : MethodName) (ws : List Cond) (rm : Room) (D : va_G) (cI : ClassId) (w0 : va_W) (as : List Value) {S : Type} (post : Option Value → S → Prop) (w1 : S → va_W) (px : String → Prop) : Prop :=
  vx_Met l y ws rm (va_Pc as (fun U => va_P D vwCl w0 U.heap ∧ zK D cI U ∧ va_D (fun _ => True) w0 ∧ zT (zin w0) U U.heap)) (muQ D post w1 w0) (vxX px) 1 6 (zin w0)
theorem vx_of {l : Launch} {y : MethodName} {ws ws' : List Cond} {rm : Room} {D : va_G} {cI : ClassId} {w0 : va_W} {as : List Value} {S : Type} {post : Option Value → S → Prop} {w1 : S → va_W} {px : String → Prop} {cc : ByteArray} {maxL : Nat} {ret : Option FieldType} {C : String}
    (hC : y.cls = C) (hy : plainName y.cls = true) (hw : ws = Cond.code y cc maxL ret :: ws') (hn : (lg_sl as).length ≤ maxL)
    (body : ∀ (p : Program) (e : Env) (s : State) (m : MethodId) (args : Array Value) (below : List Frame) (meth : Method) (c : Code) (ls : Array Slot) (Q : State → Prop) (A : Nat → Prop), zin w0 = A → vx_MQ below (muQ D post w1 w0) (vxX px) args s 1 6 A = Q → p.tables.exec = Jvm.exec → c.code = cc → meth.sig.returnType = ret → meth.locks = false → c.maxLocals = maxL → (∀ w ∈ ws, w.before args s = true) → s.vm.findClass C = some m.cls →
      va_K D vwCl [(cI, .int)] s → zE s → zDD A (w0.map Prod.fst) → (∀ x ∈ c.exceptionTable.toList, False) → zT A s s.heap → va_P D vwCl w0 s.heap → va_S A s.heap s.heap [] → lv_has ls maxL (lv_args 0 as) → W p l e rm s m args below meth c s.heap [] 0 0 Q (F0 m 0 ls [])) : VX l y ws rm D cI w0 as post w1 px := by
  refine vx_ofW (cc := cc) (maxL := maxL) (ret := ret) hy hw ?_
  intro p e s m args below meth c s₁ B hml hno hv
  obtain ⟨rfl, hP, ⟨hK, hE⟩, hD, hT⟩ := hv
  have hl := lv_entry as (n := maxL) hn
  rw [lg_entry_eq]
  subst hC
  have hD' : va_D (zin w0) w0 := ⟨hD.1, fun k q hk => List.mem_map.mpr ⟨q, List.mem_of_getElem? hk, rfl⟩⟩
  exact body p e s m as.toArray below meth c _ _ _ rfl rfl B.exec B.bytes B.returns B.notSynchronized hml (atoms_spec (ws := ws) B.pre) (findClass_of_methodNamed B.named) hK hE (zDD.of hD') hno hT hP va_S.rf hl
section ZVX
variable {p : Program} {l : Launch} {e : Env} {R : Room} {s : State} {m : MethodId} {args : Array Value} {below : List Frame} {meth : Method} {c : Code} {H : Heap} {locs : List Loc} {Q : State → Prop}
variable {cc : ByteArray} {pc : Nat} {ls : Array Slot} {rest : List Value} {D : va_G} {A : Nat → Prop} {w0 : va_W}
theorem z_throw {S : Type} {post : Option Value → S → Prop} {w1 : S → va_W} {px : String → Prop} {cls text : String} {ik is ic : Nat} (hA : zin w0 = A) (hQ : vx_MQ below (muQ D post w1 w0) (vxX px) args s 1 6 A = Q) (hx : p.tables.exec = Jvm.exec) (hb : c.code = cc) (hlt : l.stackTraces = false) (hown : s.vm.findClass RX4 = some m.cls) (hcls : Bundle.fit cls = true)
    (hk : (Cond.classLink RX4 ik cls).before args s = true) (hini : (Cond.initialized cls).before args s = true) (hE : zE s) (hstr : (is, text) ∈ zStrs) (hat1 : ∀ w ∈ (vx_atS RX4 ic cls zNames).filter goodWord, w.before args s = true) (hat2 : ∀ w ∈ (vx_atS RX4 ic cls zNames).filter (fun w => !goodWord w), w ∈ [Cond.castable cls cls]) (hcE : cls ∈ [zIAE, zISE, zIOB])
    (hgood : ∀ w ∈ Cond.classLink RX4 ik cls :: Cond.initialized cls :: vx_atS RX4 ic cls zNames, vx_ot w = true) (hT : zT A s s.heap) (hls : ls.size = c.maxLocals)
    (d0 : decode cc pc = .ok (.new ik, 3)) (d3 : decode cc (pc + 3) = .ok (.dup, 1)) (d4 : decode cc (pc + 4) = .ok (.ldc is, 2)) (d6 : decode cc (pc + 6) = .ok (.invokespecial ic, 3)) (d9 : decode cc (pc + 9) = .ok (.athrow, 1))
    (hno : ∀ x ∈ c.exceptionTable.toList, False) (hRf : 5 < R.frames) (hRl : (rest.map fun v => v.category).sum + 82 ≤ R.locals) (hRc : 1 ≤ R.cells) (hRs : 6 ≤ R.slots) (hlocks : meth.locks = false) (hpx : px cls) : W p l e R s m args below meth c s.heap [] 0 0 Q (F0 m pc ls rest) := by
  subst hQ
  subst hA
  obtain ⟨-, -, h3, h4, -⟩ := hE
  obtain ⟨sa, hsa⟩ := h3 _ hstr
  refine vx_throwS (A := zin w0) (names := zNames) (sa := sa) (text := text) hx hb hlt hown hcls (by decide) hk hini hsa (vx_hat hat1 hat2 (vx_c (va_Nw.use rfl (h4 cls hcE)) vx_n)) hgood hT.1 hT.2 va_S.rf hls d0 d3 d4 d6 d9 (fun x hx => (hno x hx).elim) hRf hRl hRc hRs hlocks (fun t _ h1 h2 => ⟨hpx, h1, h2⟩) (fun _ h => nomatch h) (Nat.le_refl _) (Nat.le_refl _)
theorem vx_iret {S : Type} {post : Option Value → S → Prop} {w1 : S → va_W} {px : String → Prop} (hA : zin w0 = A) (hQ : vx_MQ below (muQ D post w1 w0) (vxX px) args s 1 6 A = Q) (hx : p.tables.exec = Jvm.exec) (hb : c.code = cc) (hr : meth.sig.returnType = some .int) (hlocks : meth.locks = false) {v : Int32} (u : S) (hP : va_P D vwCl (w1 u) H) (hS : va_S A s.heap H locs) (hp : post (some (.int v)) u) (hdg : decode cc pc = .ok (.ireturn, 1)) : W p l e R s m args below meth c H locs 0 0 Q (F0 m pc ls [.int v]) := by
  subst hQ
  subst hA
  refine W.widen (k := 1) (n := 6) (Nat.zero_le _) (Nat.zero_le _) (vx_ret ?_)
  exact W.iret hx hb hr (fun t ht _ => ⟨⟨_, u, rfl, hp, by rw [ht]; exact hP⟩, hS.F ht⟩) hS.2.2 hdg hlocks
end ZVX
def isT (x : Int32) : Prop := ∃ j : Nat, j < 10 ∧ x = nI j
def isTN (x : Int32) : Prop := x = -1 ∨ ∃ j : Nat, j < 10 ∧ x = nI j
def acBad (x1 x2 x3 x4 : Int32) : Prop := (¬ isT x1 ∨ ¬ isT x2) ∨ (¬ isTN x3 ∨ ¬ isTN x4) ∨ (x3 = -1 ∧ ¬ x4 = -1)
def acDup (T : Nat → Int32) (k : Nat) (x1 x2 x3 x4 : Int32) : Prop := 8 ≤ k ∨ ∃ c, c < k ∧ T (c * 4 + 0) = x1 ∧ T (c * 4 + 1) = x2 ∧ T (c * 4 + 2) = x3 ∧ T (c * 4 + 3) = x4
def acT (T : Nat → Int32) (k : Nat) (x1 x2 x3 x4 : Int32) : Nat → Int32 := upd (upd (upd (upd T (k * 4) x1) (k * 4 + 1) x2) (k * 4 + 2) x3) (k * 4 + 3) x4
theorem clen_b (x3 x4 : Int32) : 2 ≤ clen x3 x4 ∧ clen x3 x4 ≤ 4 := by
  unfold clen
  split
  · split <;> decide
  · decide
theorem ac_L {Lf : Nat → Nat} {k : Nat} {x3 x4 : Int32} (hL : ∀ c, c < k → 2 ≤ Lf c ∧ Lf c ≤ 4) : ∀ c, c < k + 1 → 2 ≤ updN Lf k (clen x3 x4) c ∧ updN Lf k (clen x3 x4) c ≤ 4 := by
  intro c hc
  by_cases h : c = k
  · rw [h, updN_s]; exact clen_b x3 x4
  · rw [updN_n _ h]; exact hL c (by omega)
def dcT (T : Nat → Int32) (k j : Nat) : Nat → Int32 := va_cpy T T ((j + 1) * 4) (j * 4) ((k - j - 1) * 4)
def dcL (Lf : Nat → Nat) (k j : Nat) : Nat → Nat := va_cpy Lf Lf (j + 1) j (k - j - 1)
theorem dcL_at (Lf : Nat → Nat) {k j c : Nat} (hc : c < k - 1) : dcL Lf k j c = if c < j then Lf c else Lf (c + 1) := by
  unfold dcL
  by_cases h : c < j
  · rw [if_pos h, pk_cpy_out (Or.inl h)]
  · rw [if_neg h, pk_cpy_in (by omega) (by omega), show j + 1 + (c - j) = c + 1 by omega]
theorem dc_L {Lf : Nat → Nat} {k j : Nat} (hL : ∀ c, c < k → 2 ≤ Lf c ∧ Lf c ≤ 4) : ∀ c, c < k - 1 → 2 ≤ dcL Lf k j c ∧ dcL Lf k j c ≤ 4 := by
  intro c hc
  rw [dcL_at Lf hc]
  by_cases h : c < j
  · rw [if_pos h]; exact hL c (by omega)
  · rw [if_neg h]; exact hL (c + 1) (by omega)
theorem wr_t {t : Nat → Nat} {n j : Nat} (ht : ∀ i, i < n → t i < 10) (hj : j < 10) : ∀ i, i < n + 1 → updN t n j i < 10 := by
  intro i hi
  by_cases h : i = n
  · rw [h, updN_s]; exact hj
  · rw [updN_n _ h]; exact ht i (by omega)
theorem z_q19 {x : Int32} (h1 : ¬ x < nI 1) (h2 : x ≤ nI 9) : ∃ j : Nat, (1 ≤ j ∧ j ≤ 9) ∧ x = nI j := by
  have a1 : ¬ x < 0 := fun z => h1 (Int32.lt_trans z (by decide))
  obtain ⟨j, hj, rfl⟩ := nI_of a1
  exact ⟨j, ⟨Nat.not_lt.mp (fun z => h1 ((nI_ltI hj (by decide)).mpr z)), (nI_leI hj (by decide)).mp h2⟩, rfl⟩
theorem z_n19 {x : Int32} (h : x < nI 1 ∨ ¬ x ≤ nI 9) : ¬ ∃ j : Nat, (1 ≤ j ∧ j ≤ 9) ∧ x = nI j := by
  rintro ⟨j, hj, rfl⟩
  rcases h with h | h
  · have := (nI_ltI (by omega) (by decide)).mp h
    omega
  · exact h ((nI_leI (by omega) (by decide)).mpr hj.2)
theorem z_q24 {x : Int32} (h1 : ¬ x < nI 2) (h2 : x ≤ nI 4) : ∃ j : Nat, (2 ≤ j ∧ j ≤ 4) ∧ x = nI j := by
  have a1 : ¬ x < 0 := fun z => h1 (Int32.lt_trans z (by decide))
  obtain ⟨j, hj, rfl⟩ := nI_of a1
  exact ⟨j, ⟨Nat.not_lt.mp (fun z => h1 ((nI_ltI hj (by decide)).mpr z)), (nI_leI hj (by decide)).mp h2⟩, rfl⟩
theorem z_n24 {x : Int32} (h : x < nI 2 ∨ ¬ x ≤ nI 4) : ¬ ∃ j : Nat, (2 ≤ j ∧ j ≤ 4) ∧ x = nI j := by
  rintro ⟨j, hj, rfl⟩
  rcases h with h | h
  · have := (nI_ltI (by omega) (by decide)).mp h
    omega
  · exact h ((nI_leI (by omega) (by decide)).mpr hj.2)
def dgl (xs : List Int32) (d : Int64) : Int64 := xs.foldl (fun d x => wn2 d x.toInt64) d
noncomputable def dgE (t : Nat → Nat) (n : Nat) (Lf : Nat → Nat) (k : Nat) (C : Nat → Int32) (ps : Nat → Nat) (cnt q sg : Nat) (rp lo ea uc b2 b3 b4 : Int32) : Int64 :=
  fL (dpN C ps) (fL (dwN t) (fL (dcN Lf C ps cnt) (dgl [nI k, nI n, nI cnt, nI (sN (ctW C ps t) cnt), nI (costN n (sN (ctW C ps t) cnt)), nI (costN n (sN (fun j => wc (t j)) n)) - nI (costN n (sN (ctW C ps t) cnt)), nI sg, rp, lo, ea, nI (utN q sg), nI (gfN q sg cnt), nI (akN q sg cnt), qwF sg cnt 9 1, uc, b2, b3, b4] 2143) k) n) cnt
end
