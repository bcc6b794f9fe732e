section
-- ===== PART A: goes FIRST, ahead of the names: the tables' words, and 'selects' of the private methods out of them =====
/-- a private method of a class that the tables say can be made, by its rows of tables_1 -/
def lw_okq (q : MethodName × Nat) : Prop := (q.1.cls ≠ "java/lang/invoke/MethodHandle" ∧ q.1.cls ≠ "java/lang/invoke/VarHandle") ∧ Cond.instantiable q.1.cls q.2 ∈ tables_1 ∧ Cond.privateMethod q.1 ∈ tables_1 ∧ Cond.instanceMethod q.1 ∈ tables_1
theorem lw_p0 : lw_okq (⟨"java/lang/Throwable", "fillInStackTrace", "(I)Ljava/lang/Throwable;"⟩, 6) := ⟨⟨by decide +kernel, by decide +kernel⟩, List.mem_of_getElem? (i := 301) (by decide +kernel), List.mem_of_getElem? (i := 299) (by decide +kernel), List.mem_of_getElem? (i := 300) (by decide +kernel)⟩
theorem lw_p1 : lw_okq (⟨"LeaseGates$Bucket", "fill", "(J)V"⟩, 6) := ⟨⟨by decide +kernel, by decide +kernel⟩, List.mem_of_getElem? (i := 58) (by decide +kernel), List.mem_of_getElem? (i := 337) (by decide +kernel), List.mem_of_getElem? (i := 338) (by decide +kernel)⟩
theorem lw_p2 : lw_okq (⟨"LeaseGates", "tickerOf", "(I)LLeaseGates$Ticker;"⟩, 3) := ⟨⟨by decide +kernel, by decide +kernel⟩, List.mem_of_getElem? (i := 27) (by decide +kernel), List.mem_of_getElem? (i := 376) (by decide +kernel), List.mem_of_getElem? (i := 377) (by decide +kernel)⟩
theorem lw_p3 : lw_okq (⟨"LeaseGates$Desk", "takeOut", "(II)V"⟩, 9) := ⟨⟨by decide +kernel, by decide +kernel⟩, List.mem_of_getElem? (i := 183) (by decide +kernel), List.mem_of_getElem? (i := 427) (by decide +kernel), List.mem_of_getElem? (i := 428) (by decide +kernel)⟩
theorem lw_p4 : lw_okq (⟨"LeaseGates$Desk", "liveHoldThatEndsFirst", "(I)I"⟩, 9) := ⟨⟨by decide +kernel, by decide +kernel⟩, List.mem_of_getElem? (i := 183) (by decide +kernel), List.mem_of_getElem? (i := 431) (by decide +kernel), List.mem_of_getElem? (i := 432) (by decide +kernel)⟩
theorem lw_p5 : lw_okq (⟨"java/util/ArrayList", "fastRemove", "([Ljava/lang/Object;I)V"⟩, 3) := ⟨⟨by decide +kernel, by decide +kernel⟩, List.mem_of_getElem? (i := 64) (by decide +kernel), List.mem_of_getElem? (i := 446) (by decide +kernel), List.mem_of_getElem? (i := 447) (by decide +kernel)⟩
theorem lw_p6 : lw_okq (⟨"LeaseGates$Desk", "giveBack", "(IILLeaseGates$Post;)V"⟩, 9) := ⟨⟨by decide +kernel, by decide +kernel⟩, List.mem_of_getElem? (i := 183) (by decide +kernel), List.mem_of_getElem? (i := 468) (by decide +kernel), List.mem_of_getElem? (i := 469) (by decide +kernel)⟩
theorem lw_p7 : lw_okq (⟨"LeaseGates$Desk", "mayAsk", "(I)Z"⟩, 9) := ⟨⟨by decide +kernel, by decide +kernel⟩, List.mem_of_getElem? (i := 183) (by decide +kernel), List.mem_of_getElem? (i := 535) (by decide +kernel), List.mem_of_getElem? (i := 536) (by decide +kernel)⟩
theorem lw_p8 : lw_okq (⟨"LeaseGates", "requireMessage", "(I)LLeaseGates$Message;"⟩, 3) := ⟨⟨by decide +kernel, by decide +kernel⟩, List.mem_of_getElem? (i := 27) (by decide +kernel), List.mem_of_getElem? (i := 549) (by decide +kernel), List.mem_of_getElem? (i := 550) (by decide +kernel)⟩
theorem lw_p9 : lw_okq (⟨"LeaseGates$Root", "forgetAnswers", "(I)V"⟩, 6) := ⟨⟨by decide +kernel, by decide +kernel⟩, List.mem_of_getElem? (i := 35) (by decide +kernel), List.mem_of_getElem? (i := 562) (by decide +kernel), List.mem_of_getElem? (i := 563) (by decide +kernel)⟩
theorem lw_p10 : lw_okq (⟨"LeaseGates$Root", "answerTo", "(LLeaseGates$Message;LLeaseGates$Account;)LLeaseGates$Message;"⟩, 6) := ⟨⟨by decide +kernel, by decide +kernel⟩, List.mem_of_getElem? (i := 35) (by decide +kernel), List.mem_of_getElem? (i := 567) (by decide +kernel), List.mem_of_getElem? (i := 568) (by decide +kernel)⟩
theorem lw_p11 : lw_okq (⟨"LeaseGates$Root", "shareOf", "(III)I"⟩, 6) := ⟨⟨by decide +kernel, by decide +kernel⟩, List.mem_of_getElem? (i := 35) (by decide +kernel), List.mem_of_getElem? (i := 576) (by decide +kernel), List.mem_of_getElem? (i := 577) (by decide +kernel)⟩
theorem lw_p12 : lw_okq (⟨"java/util/ArrayList", "add", "(Ljava/lang/Object;[Ljava/lang/Object;I)V"⟩, 3) := ⟨⟨by decide +kernel, by decide +kernel⟩, List.mem_of_getElem? (i := 64) (by decide +kernel), List.mem_of_getElem? (i := 615) (by decide +kernel), List.mem_of_getElem? (i := 616) (by decide +kernel)⟩
theorem lw_p13 : lw_okq (⟨"java/util/ArrayList", "grow", "()[Ljava/lang/Object;"⟩, 3) := ⟨⟨by decide +kernel, by decide +kernel⟩, List.mem_of_getElem? (i := 64) (by decide +kernel), List.mem_of_getElem? (i := 619) (by decide +kernel), List.mem_of_getElem? (i := 620) (by decide +kernel)⟩
theorem lw_p14 : lw_okq (⟨"java/util/ArrayList", "grow", "(I)[Ljava/lang/Object;"⟩, 3) := ⟨⟨by decide +kernel, by decide +kernel⟩, List.mem_of_getElem? (i := 64) (by decide +kernel), List.mem_of_getElem? (i := 623) (by decide +kernel), List.mem_of_getElem? (i := 624) (by decide +kernel)⟩
theorem lw_p15 : lw_okq (⟨"LeaseGates$Bucket", "close", "(I)V"⟩, 6) := ⟨⟨by decide +kernel, by decide +kernel⟩, List.mem_of_getElem? (i := 58) (by decide +kernel), List.mem_of_getElem? (i := 679) (by decide +kernel), List.mem_of_getElem? (i := 680) (by decide +kernel)⟩
def lw_privs_1 : List (MethodName × Nat) := [(⟨"java/lang/Throwable", "fillInStackTrace", "(I)Ljava/lang/Throwable;"⟩, 6), (⟨"LeaseGates$Bucket", "fill", "(J)V"⟩, 6), (⟨"LeaseGates", "tickerOf", "(I)LLeaseGates$Ticker;"⟩, 3), (⟨"LeaseGates$Desk", "takeOut", "(II)V"⟩, 9), (⟨"LeaseGates$Desk", "liveHoldThatEndsFirst", "(I)I"⟩, 9), (⟨"java/util/ArrayList", "fastRemove", "([Ljava/lang/Object;I)V"⟩, 3), (⟨"LeaseGates$Desk", "giveBack", "(IILLeaseGates$Post;)V"⟩, 9), (⟨"LeaseGates$Desk", "mayAsk", "(I)Z"⟩, 9), (⟨"LeaseGates", "requireMessage", "(I)LLeaseGates$Message;"⟩, 3), (⟨"LeaseGates$Root", "forgetAnswers", "(I)V"⟩, 6), (⟨"LeaseGates$Root", "answerTo", "(LLeaseGates$Message;LLeaseGates$Account;)LLeaseGates$Message;"⟩, 6), (⟨"LeaseGates$Root", "shareOf", "(III)I"⟩, 6), (⟨"java/util/ArrayList", "add", "(Ljava/lang/Object;[Ljava/lang/Object;I)V"⟩, 3), (⟨"java/util/ArrayList", "grow", "()[Ljava/lang/Object;"⟩, 3), (⟨"java/util/ArrayList", "grow", "(I)[Ljava/lang/Object;"⟩, 3), (⟨"LeaseGates$Bucket", "close", "(I)V"⟩, 6)]
theorem lw_r1 : ∀ q ∈ lw_privs_1, lw_okq q := List.forall_mem_cons.mpr ⟨lw_p0, List.forall_mem_cons.mpr ⟨lw_p1, List.forall_mem_cons.mpr ⟨lw_p2, List.forall_mem_cons.mpr ⟨lw_p3, List.forall_mem_cons.mpr ⟨lw_p4, List.forall_mem_cons.mpr ⟨lw_p5, List.forall_mem_cons.mpr ⟨lw_p6, List.forall_mem_cons.mpr ⟨lw_p7, List.forall_mem_cons.mpr ⟨lw_p8, List.forall_mem_cons.mpr ⟨lw_p9, List.forall_mem_cons.mpr ⟨lw_p10, List.forall_mem_cons.mpr ⟨lw_p11, List.forall_mem_cons.mpr ⟨lw_p12, List.forall_mem_cons.mpr ⟨lw_p13, List.forall_mem_cons.mpr ⟨lw_p14, List.forall_mem_cons.mpr ⟨lw_p15, fun _ h => absurd h List.not_mem_nil⟩⟩⟩⟩⟩⟩⟩⟩⟩⟩⟩⟩⟩⟩⟩⟩
theorem lw_p16 : lw_okq (⟨"LeaseGates$Bucket", "loanThatEndsFirst", "()I"⟩, 6) := ⟨⟨by decide +kernel, by decide +kernel⟩, List.mem_of_getElem? (i := 58) (by decide +kernel), List.mem_of_getElem? (i := 744) (by decide +kernel), List.mem_of_getElem? (i := 745) (by decide +kernel)⟩
theorem lw_p17 : lw_okq (⟨"LeaseGatesModel", "refused", "(I)Z"⟩, 34) := ⟨⟨by decide +kernel, by decide +kernel⟩, List.mem_of_getElem? (i := 799) (by decide +kernel), List.mem_of_getElem? (i := 923) (by decide +kernel), List.mem_of_getElem? (i := 924) (by decide +kernel)⟩
theorem lw_p18 : lw_okq (⟨"LeaseGatesModel", "fill", "(IJ)V"⟩, 34) := ⟨⟨by decide +kernel, by decide +kernel⟩, List.mem_of_getElem? (i := 799) (by decide +kernel), List.mem_of_getElem? (i := 927) (by decide +kernel), List.mem_of_getElem? (i := 928) (by decide +kernel)⟩
theorem lw_p19 : lw_okq (⟨"LeaseGatesModel", "lent", "(I)I"⟩, 34) := ⟨⟨by decide +kernel, by decide +kernel⟩, List.mem_of_getElem? (i := 799) (by decide +kernel), List.mem_of_getElem? (i := 932) (by decide +kernel), List.mem_of_getElem? (i := 933) (by decide +kernel)⟩
theorem lw_p20 : lw_okq (⟨"LeaseGatesModel", "clockOf", "(I)I"⟩, 34) := ⟨⟨by decide +kernel, by decide +kernel⟩, List.mem_of_getElem? (i := 799) (by decide +kernel), List.mem_of_getElem? (i := 952) (by decide +kernel), List.mem_of_getElem? (i := 953) (by decide +kernel)⟩
theorem lw_p21 : lw_okq (⟨"LeaseGatesModel", "rootGoesOn", "(II)V"⟩, 34) := ⟨⟨by decide +kernel, by decide +kernel⟩, List.mem_of_getElem? (i := 799) (by decide +kernel), List.mem_of_getElem? (i := 956) (by decide +kernel), List.mem_of_getElem? (i := 957) (by decide +kernel)⟩
theorem lw_p22 : lw_okq (⟨"LeaseGatesModel", "nextEnd", "(I)I"⟩, 34) := ⟨⟨by decide +kernel, by decide +kernel⟩, List.mem_of_getElem? (i := 799) (by decide +kernel), List.mem_of_getElem? (i := 960) (by decide +kernel), List.mem_of_getElem? (i := 961) (by decide +kernel)⟩
theorem lw_p23 : lw_okq (⟨"LeaseGatesModel", "fillAll", "(I)V"⟩, 34) := ⟨⟨by decide +kernel, by decide +kernel⟩, List.mem_of_getElem? (i := 799) (by decide +kernel), List.mem_of_getElem? (i := 964) (by decide +kernel), List.mem_of_getElem? (i := 965) (by decide +kernel)⟩
theorem lw_p24 : lw_okq (⟨"LeaseGatesModel", "live", "(II)I"⟩, 34) := ⟨⟨by decide +kernel, by decide +kernel⟩, List.mem_of_getElem? (i := 799) (by decide +kernel), List.mem_of_getElem? (i := 975) (by decide +kernel), List.mem_of_getElem? (i := 976) (by decide +kernel)⟩
theorem lw_p25 : lw_okq (⟨"LeaseGatesModel", "isHold", "(III)Z"⟩, 34) := ⟨⟨by decide +kernel, by decide +kernel⟩, List.mem_of_getElem? (i := 799) (by decide +kernel), List.mem_of_getElem? (i := 979) (by decide +kernel), List.mem_of_getElem? (i := 980) (by decide +kernel)⟩
theorem lw_p26 : lw_okq (⟨"LeaseGatesModel", "isLive", "(II)Z"⟩, 34) := ⟨⟨by decide +kernel, by decide +kernel⟩, List.mem_of_getElem? (i := 799) (by decide +kernel), List.mem_of_getElem? (i := 983) (by decide +kernel), List.mem_of_getElem? (i := 984) (by decide +kernel)⟩
theorem lw_p27 : lw_okq (⟨"LeaseGatesModel", "age", "(II)I"⟩, 34) := ⟨⟨by decide +kernel, by decide +kernel⟩, List.mem_of_getElem? (i := 799) (by decide +kernel), List.mem_of_getElem? (i := 987) (by decide +kernel), List.mem_of_getElem? (i := 988) (by decide +kernel)⟩
theorem lw_p28 : lw_okq (⟨"LeaseGatesModel", "giveBack", "(II)I"⟩, 34) := ⟨⟨by decide +kernel, by decide +kernel⟩, List.mem_of_getElem? (i := 799) (by decide +kernel), List.mem_of_getElem? (i := 998) (by decide +kernel), List.mem_of_getElem? (i := 999) (by decide +kernel)⟩
theorem lw_p29 : lw_okq (⟨"LeaseGatesModel", "send", "(IIIIIII)I"⟩, 34) := ⟨⟨by decide +kernel, by decide +kernel⟩, List.mem_of_getElem? (i := 799) (by decide +kernel), List.mem_of_getElem? (i := 1002) (by decide +kernel), List.mem_of_getElem? (i := 1003) (by decide +kernel)⟩
theorem lw_p30 : lw_okq (⟨"LeaseGatesModel", "isMessage", "(I)Z"⟩, 34) := ⟨⟨by decide +kernel, by decide +kernel⟩, List.mem_of_getElem? (i := 799) (by decide +kernel), List.mem_of_getElem? (i := 1014) (by decide +kernel), List.mem_of_getElem? (i := 1015) (by decide +kernel)⟩
theorem lw_p31 : lw_okq (⟨"LeaseGatesModel", "asks", "(IIIII)Z"⟩, 34) := ⟨⟨by decide +kernel, by decide +kernel⟩, List.mem_of_getElem? (i := 799) (by decide +kernel), List.mem_of_getElem? (i := 1018) (by decide +kernel), List.mem_of_getElem? (i := 1019) (by decide +kernel)⟩
def lw_privs_2 : List (MethodName × Nat) := [(⟨"LeaseGates$Bucket", "loanThatEndsFirst", "()I"⟩, 6), (⟨"LeaseGatesModel", "refused", "(I)Z"⟩, 34), (⟨"LeaseGatesModel", "fill", "(IJ)V"⟩, 34), (⟨"LeaseGatesModel", "lent", "(I)I"⟩, 34), (⟨"LeaseGatesModel", "clockOf", "(I)I"⟩, 34), (⟨"LeaseGatesModel", "rootGoesOn", "(II)V"⟩, 34), (⟨"LeaseGatesModel", "nextEnd", "(I)I"⟩, 34), (⟨"LeaseGatesModel", "fillAll", "(I)V"⟩, 34), (⟨"LeaseGatesModel", "live", "(II)I"⟩, 34), (⟨"LeaseGatesModel", "isHold", "(III)Z"⟩, 34), (⟨"LeaseGatesModel", "isLive", "(II)Z"⟩, 34), (⟨"LeaseGatesModel", "age", "(II)I"⟩, 34), (⟨"LeaseGatesModel", "giveBack", "(II)I"⟩, 34), (⟨"LeaseGatesModel", "send", "(IIIIIII)I"⟩, 34), (⟨"LeaseGatesModel", "isMessage", "(I)Z"⟩, 34), (⟨"LeaseGatesModel", "asks", "(IIIII)Z"⟩, 34)]
theorem lw_r2 : ∀ q ∈ lw_privs_2, lw_okq q := List.forall_mem_cons.mpr ⟨lw_p16, List.forall_mem_cons.mpr ⟨lw_p17, List.forall_mem_cons.mpr ⟨lw_p18, List.forall_mem_cons.mpr ⟨lw_p19, List.forall_mem_cons.mpr ⟨lw_p20, List.forall_mem_cons.mpr ⟨lw_p21, List.forall_mem_cons.mpr ⟨lw_p22, List.forall_mem_cons.mpr ⟨lw_p23, List.forall_mem_cons.mpr ⟨lw_p24, List.forall_mem_cons.mpr ⟨lw_p25, List.forall_mem_cons.mpr ⟨lw_p26, List.forall_mem_cons.mpr ⟨lw_p27, List.forall_mem_cons.mpr ⟨lw_p28, List.forall_mem_cons.mpr ⟨lw_p29, List.forall_mem_cons.mpr ⟨lw_p30, List.forall_mem_cons.mpr ⟨lw_p31, fun _ h => absurd h List.not_mem_nil⟩⟩⟩⟩⟩⟩⟩⟩⟩⟩⟩⟩⟩⟩⟩⟩
theorem lw_p32 : lw_okq (⟨"LeaseGatesModel", "answer", "(IIII)V"⟩, 34) := ⟨⟨by decide +kernel, by decide +kernel⟩, List.mem_of_getElem? (i := 799) (by decide +kernel), List.mem_of_getElem? (i := 1022) (by decide +kernel), List.mem_of_getElem? (i := 1023) (by decide +kernel)⟩
theorem lw_p33 : lw_okq (⟨"LeaseGatesModel", "sendGrant", "(II)V"⟩, 34) := ⟨⟨by decide +kernel, by decide +kernel⟩, List.mem_of_getElem? (i := 799) (by decide +kernel), List.mem_of_getElem? (i := 1026) (by decide +kernel), List.mem_of_getElem? (i := 1027) (by decide +kernel)⟩
theorem lw_p34 : lw_okq (⟨"LeaseGatesModel", "arrives", "(I)Z"⟩, 34) := ⟨⟨by decide +kernel, by decide +kernel⟩, List.mem_of_getElem? (i := 799) (by decide +kernel), List.mem_of_getElem? (i := 1030) (by decide +kernel), List.mem_of_getElem? (i := 1031) (by decide +kernel)⟩
theorem lw_p35 : lw_okq (⟨"LeaseGatesModel", "returns", "(IIII)Z"⟩, 34) := ⟨⟨by decide +kernel, by decide +kernel⟩, List.mem_of_getElem? (i := 799) (by decide +kernel), List.mem_of_getElem? (i := 1034) (by decide +kernel), List.mem_of_getElem? (i := 1035) (by decide +kernel)⟩
def lw_privs_3 : List (MethodName × Nat) := [(⟨"LeaseGatesModel", "answer", "(IIII)V"⟩, 34), (⟨"LeaseGatesModel", "sendGrant", "(II)V"⟩, 34), (⟨"LeaseGatesModel", "arrives", "(I)Z"⟩, 34), (⟨"LeaseGatesModel", "returns", "(IIII)Z"⟩, 34)]
theorem lw_r3 : ∀ q ∈ lw_privs_3, lw_okq q := List.forall_mem_cons.mpr ⟨lw_p32, List.forall_mem_cons.mpr ⟨lw_p33, List.forall_mem_cons.mpr ⟨lw_p34, List.forall_mem_cons.mpr ⟨lw_p35, fun _ h => absurd h List.not_mem_nil⟩⟩⟩⟩
def lw_privs : List (MethodName × Nat) := lw_privs_1 ++ (lw_privs_2 ++ (lw_privs_3))
def lw_tbl : List Cond := k2_sels lw_privs ++ tables_1
theorem lw_privs_ok : ∀ q ∈ lw_privs, lw_okq q := by
  show ∀ q ∈ lw_privs_1 ++ (lw_privs_2 ++ (lw_privs_3)), lw_okq q
  exact List.forall_mem_append.mpr ⟨lw_r1, List.forall_mem_append.mpr ⟨lw_r2, lw_r3⟩⟩
-- ===== end of PART A; then your names; then what follows =====
end
section
/-! ===== BEGIN words of one list among another's, by their places ===== -/
theorem goodIn_r {big : List Cond} (ws : List Cond) (ps : List Nat) (hp : ws = ps.filterMap (fun i => big[i]?)) (h : ws.all goodWord = true) : GoodIn big ws := by
  intro w hw
  have h1 := List.all_eq_true.mp h w hw
  rw [hp] at hw
  obtain ⟨i, -, hi⟩ := List.mem_filterMap.mp hw
  have hm : w ∈ big := by first | exact List.mem_of_getElem? hi | exact List.getElem?_mem hi
  exact ⟨hm, good_of_word h1⟩
theorem goodIn_app {big a b : List Cond} (ha : GoodIn big a) (hb : GoodIn big b) : GoodIn big (a ++ b) := fun w h => (List.mem_append.mp h).elim (ha w) (hb w)
theorem goodIn_ca {big a b : List Cond} {c : Cond} (ha : GoodIn big (c :: a)) (hb : GoodIn big b) : GoodIn big (c :: (a ++ b)) := fun w h => (List.mem_cons.mp h).elim (fun e => ha w (List.mem_cons.mpr (Or.inl e))) (fun h => (List.mem_append.mp h).elim (fun h => ha w (List.mem_cons.mpr (Or.inr h))) (hb w))
theorem goodIn_sub {big ws : List Cond} (hm : ∀ w ∈ ws, w ∈ big) (h : ws.all goodWord = true) : GoodIn big ws := fun w hw => ⟨hm w hw, good_of_word (List.all_eq_true.mp h w hw)⟩
/-! ===== END ===== -/

/-! ===== BEGIN exceptions that leave a method, and their catching by the caller (launches without stack traces) ===== -/
section VXA
/-! The laws vx_back, vx_callV, vx_callS, vx_callSW, vx_throw0, vx_throwS follow proofs of the library, with one case more: JvmDerived/Free/Laws.lean (Back.of_free), Shelf42/LK1.lean (callV, callS), Shelf/KitTraced.lean (throwNew0V, throwNewS). -/
/-- where a method has thrown q: the class by its name, the cell, what was written, the world -/
def vx_T (XC : String → State → State → Prop) (st : State) (q : Addr) (t : State) (mc ms : Nat) (free : Addr → Prop) : Prop :=
  ∃ (E : String) (ce : Cell) (L : List Loc), XC E st t ∧ t.heap[q]? = some ce ∧ ce.vm = .none ∧ st.vm.findClass E = some ce.cls ∧ st.WarmedH t.vm ∧ st.sameButNew ({ t with vm := st.vm } : State) L mc ms ∧ ∀ z ∈ L, free z.base
def vx_Q (Qc : Array Value → State → Outcome → State → Prop) (XC : String → State → State → Prop) (mc ms : Nat) (free : Addr → Prop) : Array Value → State → Outcome → State → Prop := fun a st o t =>
  (Qc a st o t ∧ ∃ L, FrameEnd st o t L mc ms ∧ ∀ q ∈ L, free q.base) ∨ ∃ q, o = .threw q ∧ vx_T XC st q t mc ms free
/-- a callee that returns or throws -/
def vx_Met (l : Launch) (y : MethodName) (ws : List Cond) (rm : Room) (Pc : Array Value → State → Prop) (Qc : Array Value → State → Outcome → State → Prop) (XC : String → State → State → Prop) (mc ms : Nat) (free : Addr → Prop) : Prop :=
  MetFree l y (headSpec ws rm) Pc (fun _ _ _ _ _ => True) (vx_Q Qc XC mc ms free)
def vx_Post (XC : String → State → State → Prop) (mc ms : Nat) (free : Addr → Prop) : Pt → Array Value → Addr → Pt → Prop := fun A a q B =>
  ∃ (g : JFrame) (mk : MethodId) (t : State) (L : List Loc) (E : String) (ce : Cell), B.U.heap = t.heap ∧ B.U.vm = t.vm ∧ XC E (A.U.calling g mk a) t ∧ t.heap[q]? = some ce ∧ ce.vm = .none ∧ A.U.vm.findClass E = some ce.cls ∧ B.locs = A.locs ++ L ∧ (∀ z ∈ L, free z.base) ∧ B.cells = A.cells + mc ∧ B.slots = A.slots + ms
def vx_Back (l : Launch) (R : Room) (p : Program) (e : Env) (below : List Frame) (s : State) (sargs : Array Value) (y : MethodName) (len W9 : Nat)
    (Pre : Pt → Array Value → Prop) (Post : Pt → Array Value → Option Value → Pt → Prop) (PostX : Pt → Array Value → Addr → Pt → Prop) : Prop :=
  ∀ (m : MethodId) (meth : Method) (c : Code) (A : Pt) (g : JFrame) (ig : Instr) (mk : MethodId) (a : Array Value),
    Stand p l e R s m sargs below meth c A.U A.locs A.cells A.slots → g.method = m → g.locals.size = c.maxLocals → decode c.code g.pc = .ok (ig, len) →
    2 * g.monitorRoom + (g.stack.map fun v => v.category).sum ≤ W9 → A.U.methodNamed? y = some mk → Pre A a →
    (∃ (v : Option Value) (B : Pt), Stand p l e R s m sargs below meth c B.U B.locs B.cells B.slots ∧ Post A a v B ∧
      Steps p.tables e below (doInvoke e (A.U.setTop g) [] mk a).1 (B.U.setTop { g with pc := g.pc + len, stack := v.toList ++ g.stack })) ∨
    (∃ (q : Addr) (B : Pt), Stand p l e R s m sargs below meth c B.U B.locs B.cells B.slots ∧ PostX A a q B ∧
      Steps p.tables e below (doInvoke e (A.U.setTop g) [] mk a).1 ((B.U.setTop g).pushFrame (.throwing q)))
section Payer
variable {l : Launch} {R : Room} {p : Program} {e : Env} {below : List Frame} {s : State} {sargs : Array Value} {y : MethodName} {len W9 : Nat}
theorem vx_back {ws : List Cond} {rm : Room} {Pc : Array Value → State → Prop} {Qc : Array Value → State → Outcome → State → Prop} {XC : String → State → State → Prop} {mc ms : Nat} {free : Addr → Prop} {bytes : ByteArray} {maxL : Nat} {ret : Option FieldType}
    (hM : vx_Met l y ws rm Pc Qc XC mc ms free) (hblind : FrameBlind Pc) (hrc : rm.cells = mc) (hrs : rm.slots = ms)
    (hframes : rm.frames + 1 ≤ R.frames) (hlocals : W9 + (maxL + 11) + rm.locals ≤ R.locals)
    (hws : ∀ w ∈ ws, ∀ a' U, s.WarmedH U.vm → w.before a' U = true) (hcode : Cond.code y bytes maxL ret ∈ ws) (hinit : ∀ a' U, s.WarmedH U.vm → (Cond.initialized y.cls).before a' U = true) :
    vx_Back l R p e below s sargs y len W9 (PreOf R mc ms Pc) (PostOf Qc mc ms free) (vx_Post XC mc ms free) := by
  intro m meth c A g ig mk a X hg hsize hdg hW hn hp
  have h1 : (headSpec ws rm).pre.before a A.U = true := atoms_intro fun w hw => hws w hw _ _ X.warmed
  have h2 : (Cond.code y bytes maxL ret).before a A.U = true := hws _ hcode _ _ X.warmed
  have h3 : (Cond.initialized y.cls).before a A.U = true := hinit _ _ X.warmed
  have h4 : A.cells + (headSpec ws rm).room.cells ≤ R.cells := by rw [show (headSpec ws rm).room.cells = mc from hrc]; exact hp.1
  have h5 : A.slots + (headSpec ws rm).room.slots ≤ R.slots := by rw [show (headSpec ws rm).room.slots = ms from hrs]; exact hp.2.1
  have hPc : Pc a (A.U.calling g mk a) := hblind _ _ _ _ hp.2.2
  obtain ⟨U, Ls, c0, s0⟩ := A
  dsimp only [Pt.U, Pt.locs, Pt.cells, Pt.slots] at h1 h2 h3 h4 h5 X hn hPc ⊢
  obtain ⟨methY, cY, hmY, hcY, -, hlY, -, -, -, -⟩ := Cond.code_spec hn h2
  obtain ⟨kY, hkY, -⟩ := className_of_methodNamed hn
  have hinitY : kY.init = .initialized := Cond.initialized_spec (findClass_of_methodNamed hn) hkY h3
  have h : At U g.method c below := by rw [hg]; exact X.here
  have hlocals9 : W9 + (maxL + 11) + (headSpec ws rm).room.locals ≤ R.locals := hlocals
  have happ : (headSpec ws rm).appliesLoose y e.platform (U.calling g mk a) = true :=
    Spec.appliesLoose_calling (g := g) h hdg hn hkY hinitY
      (X.room_calling (g := g) (R' := (headSpec ws rm).room) hsize hmY hcY hframes (by rw [hlY]; omega) h4 h5) h1
  obtain ⟨mid, hmid⟩ := h.above
  have hfr : (U.setTop g).frames = (.java g :: mid) ++ below := by rw [State.frames_setTop' g h.top, hmid]; rfl
  obtain ⟨o, s₂, hsteps, -, hend, hq⟩ := Steps.callFree hM p X.admits X.cas X.clock (acts := []) hfr happ hPc trivial
  have hq' : vx_Q Qc XC mc ms free a (U.calling g mk a) o s₂ := hq
  rw [State.frames_setTop' g h.top] at hend
  obtain ⟨g₀, hg0⟩ := Option.isSome_iff_exists.mp h.top
  obtain ⟨r, hr⟩ := State.topJava?_eq_some.mp hg0
  have hr' : (({ U with heap := s₂.heap, slotsUsed := s₂.slotsUsed } : State).setVm s₂.vm).frames = .java g₀ :: r := hr
  rcases hq' with ⟨hqc, L, hfe, hL⟩ | ⟨q, rfl, E, ce, L, hx, hce, hcv, hcl, hW₂, hsm, hL⟩
  · obtain ⟨⟨v, rfl⟩, hW₂, e2, q2, q3, q4, q5, q6⟩ := id hfe
    have e3 : s₂ = ({ (U.calling g mk a).setFrames s₂.frames with heap := s₂.heap, slotsUsed := s₂.slotsUsed } : State).setVm s₂.vm := by
      have : s₂ = ({ s₂ with vm := (U.calling g mk a).vm } : State).setVm s₂.vm := rfl
      rw [e2] at this
      exact this
    obtain ⟨c₂, i₂, len₂, hc₂, hd₂, hf₂⟩ := hend
    have hW' : U.WarmedH s₂.vm := hW₂
    have hcc : c₂ = c := by
      have h1 : s₂.code? g.method = U.code? g.method := by
        rw [State.code?_eq, State.code?_eq, hW'.alike.method?]
      exact Option.some.inj (hc₂.symm.trans (h1.trans h.code))
    subst hcc
    have hlen : len₂ = len := by rw [hdg] at hd₂; cases hd₂; rfl
    subst hlen
    have hs₂ : s₂ = (({ U with heap := s₂.heap, slotsUsed := s₂.slotsUsed } : State).setVm s₂.vm).setTop { g with pc := g.pc + len₂, stack := v.toList ++ g.stack } := by
      refine e3.trans ?_
      rw [hf₂, State.calling_eq h.top, State.setFrames_setFrames, State.setTop_of_frames _ hr', hr]
      rfl
    have hsame : U.sameButNew ({ U with heap := s₂.heap, slotsUsed := s₂.slotsUsed } : State) L mc ms := by
      refine ⟨?_, q2, q3, q4, q5, q6⟩
      obtain ⟨t, ht, -⟩ := State.frames_cons hr
      show ({ U with heap := s₂.heap, slotsUsed := s₂.slotsUsed } : State) = { U.setFrames U.frames with heap := s₂.heap, slotsUsed := s₂.slotsUsed }
      rw [State.setFrames_self ht]
    subst hg
    refine Or.inl ⟨v, ⟨(({ U with heap := s₂.heap, slotsUsed := s₂.slotsUsed } : State).setVm s₂.vm), Ls ++ L, c0 + mc, s0 + ms⟩,
      ⟨X.admits, X.cas, X.clock, X.frames, X.room, X.hears, X.method, X.code, (X.here.setHeapUsed s₂.heap s₂.slotsUsed).setVm hW'.alike, X.tail, State.WarmedH.trans X.warmed hW', X.limits, X.bytes, X.same.trans (hsame.setVm s.vm)⟩,
      ⟨g, mk, s₂, L, rfl, rfl, hqc, rfl, hL, rfl, rfl⟩, ?_⟩
    show Steps p.tables e below _ ((({ U with heap := s₂.heap, slotsUsed := s₂.slotsUsed } : State).setVm s₂.vm).setTop { g with pc := g.pc + len₂, stack := v.toList ++ g.stack })
    rw [← hs₂]
    exact hsteps
  · obtain ⟨e2, q2, q3, q4, q5, q6⟩ := id hsm
    have e3 : s₂ = ({ (U.calling g mk a).setFrames s₂.frames with heap := s₂.heap, slotsUsed := s₂.slotsUsed } : State).setVm s₂.vm := by
      have : s₂ = ({ s₂ with vm := (U.calling g mk a).vm } : State).setVm s₂.vm := rfl
      rw [e2] at this
      exact this
    have hf₂ : s₂.frames = .throwing q :: .java g :: U.frames.tail := hend
    have hW' : U.WarmedH s₂.vm := hW₂
    have hs₂ : s₂ = ((({ U with heap := s₂.heap, slotsUsed := s₂.slotsUsed } : State).setVm s₂.vm).setTop g).pushFrame (.throwing q) := by
      refine e3.trans ?_
      rw [hf₂, State.calling_eq h.top, State.setFrames_setFrames, State.pushFrame, State.frames_setTop _ hr', State.setTop_of_frames _ hr', State.setFrames_setFrames, hr]
      rfl
    have hsame : U.sameButNew ({ U with heap := s₂.heap, slotsUsed := s₂.slotsUsed } : State) L mc ms := by
      refine ⟨?_, q2, q3, q4, q5, q6⟩
      obtain ⟨t, ht, -⟩ := State.frames_cons hr
      show ({ U with heap := s₂.heap, slotsUsed := s₂.slotsUsed } : State) = { U.setFrames U.frames with heap := s₂.heap, slotsUsed := s₂.slotsUsed }
      rw [State.setFrames_self ht]
    subst hg
    refine Or.inr ⟨q, ⟨(({ U with heap := s₂.heap, slotsUsed := s₂.slotsUsed } : State).setVm s₂.vm), Ls ++ L, c0 + mc, s0 + ms⟩,
      ⟨X.admits, X.cas, X.clock, X.frames, X.room, X.hears, X.method, X.code, (X.here.setHeapUsed s₂.heap s₂.slotsUsed).setVm hW'.alike, X.tail, State.WarmedH.trans X.warmed hW', X.limits, X.bytes, X.same.trans (hsame.setVm s.vm)⟩,
      ⟨g, mk, s₂, L, E, ce, rfl, rfl, hx, hce, hcv, hcl, rfl, hL, rfl, rfl⟩, ?_⟩
    show Steps p.tables e below _ (((({ U with heap := s₂.heap, slotsUsed := s₂.slotsUsed } : State).setVm s₂.vm).setTop g).pushFrame (.throwing q))
    rw [← hs₂]
    exact hsteps
end Payer
section Calls
variable {p : Program} {l : Launch} {e : Env} {R : Room} {s : State} {m : MethodId} {args : Array Value} {below : List Frame} {meth : Method} {c : Code} {T : State} {locs : List Loc} {cells slots : Nat}
theorem vx_callV (X : Stand p l e R s m args below meth c T locs cells slots) (hexec : p.tables.exec = Jvm.exec) {own C : String} {index : Nat} {y : MethodName} {bytes : ByteArray} {maxL : Nat} {ret : Option FieldType}
    (hown : s.vm.findClass own = some m.cls) (hlink : (Cond.methodLink own index y).before args s = true) (hinst : (Cond.instanceMethod y).before args s = true) (hsel : (Cond.selects C y y).before args s = true)
    (hcode : (Cond.code y bytes maxL ret).before args s = true) (hy : y.cls ≠ "java/lang/invoke/MethodHandle" ∧ y.cls ≠ "java/lang/invoke/VarHandle")
    {W9 : Nat} {Pre : Pt → Array Value → Prop} {Post : Pt → Array Value → Option Value → Pt → Prop} {PostX : Pt → Array Value → Addr → Pt → Prop} (hK : vx_Back l R p e below s args y 3 W9 Pre Post PostX)
    {b : Addr} {cellB : Cell} (hcell : T.heap[b]? = some cellB) (hobj : cellB.vm.isStatics = false) (hcls : s.vm.findClass C = some cellB.cls)
    {g : JFrame} (hg : g.method = m) (hsize : g.locals.size = c.maxLocals) {argsL rest : List Value} (hlen : ∀ sig, parseMethodDescriptor y.desc = some sig → argsL.length = sig.parameters.length)
    (hstack : g.stack = argsL.reverse ++ .ref b :: rest) (hW : 2 * g.monitorRoom + (rest.map fun v => v.category).sum ≤ W9) (hdg : decode c.code g.pc = .ok (.invokevirtual index, 3))
    (hpre : ∀ vm₁, s.WarmedH vm₁ → Pre ⟨T.setVm vm₁, locs, cells, slots⟩ (Value.ref b :: argsL).toArray) :
    (∃ (v : Option Value) (vm₁ : Vm) (B : Pt), s.WarmedH vm₁ ∧ Stand p l e R s m args below meth c B.U B.locs B.cells B.slots ∧ Post ⟨T.setVm vm₁, locs, cells, slots⟩ (Value.ref b :: argsL).toArray v B ∧
      ∀ target, Steps p.tables e below (B.U.setTop { g with pc := g.pc + 3, stack := v.toList ++ rest }) target → Steps p.tables e below (T.setTop g) target) ∨
    (∃ (q : Addr) (vm₁ : Vm) (B : Pt), s.WarmedH vm₁ ∧ Stand p l e R s m args below meth c B.U B.locs B.cells B.slots ∧ PostX ⟨T.setVm vm₁, locs, cells, slots⟩ (Value.ref b :: argsL).toArray q B ∧
      Steps p.tables e below (T.setTop g) ((B.U.setTop { g with stack := rest }).pushFrame (.throwing q))) := by
  obtain ⟨mk, methM, hnamed, hmethM, hstM, habM⟩ := Cond.instanceMethod_spec hinst
  obtain ⟨methM', cM, hmethM', -, -, -, -, -, -, hsigM⟩ := Cond.code_spec hnamed hcode
  cases hmethM.symm.trans hmethM'
  obtain ⟨c2, r2, m2, q1, q2, q3, q4, kP, hkP, hkPi⟩ := Cond.selects_spec hsel
  cases hcls.symm.trans q1
  cases (State.methodFound?_of_named hnamed hy).symm.trans q2
  cases hnamed.symm.trans q3
  have hselP : selectMethod e.platform s.vm cellB.cls mk = .method mk := by rw [Launch.admits_selectMethod X.admits]; exact q4
  obtain ⟨vm₁, X₁, hstep₁⟩ := X.invokevirtual hexec hown hlink hnamed hmethM hstM hkP hkPi hy (a := b) (cell := cellB) hcell
    (fun z h => by rw [h] at hobj; cases hobj) hselP hmethM habM hkP hkPi (g := g) hg (argsL := argsL) (rest := rest) (hlen _ hsigM) hstack hdg
  rcases hK m meth c ⟨T.setVm vm₁, locs, cells, slots⟩ { g with stack := rest } (.invokevirtual index) mk (Value.ref b :: argsL).toArray X₁ hg hsize hdg hW (X₁.named hnamed) (hpre vm₁ X₁.warmed) with ⟨v, B, X', hpost, hsteps⟩ | ⟨q, B, X', hpost, hsteps⟩
  · exact Or.inl ⟨v, vm₁, B, X₁.warmed, X', hpost, fun target h => hstep₁ _ fun acts => by rw [doInvoke_state]; exact hsteps.trans h⟩
  · exact Or.inr ⟨q, vm₁, B, X₁.warmed, X', hpost, hstep₁ _ fun acts => by rw [doInvoke_state]; exact hsteps⟩
theorem vx_callS (X : Stand p l e R s m args below meth c T locs cells slots) (hexec : p.tables.exec = Jvm.exec) {own : String} {index : Nat} {y : MethodName} {bytes : ByteArray} {maxL : Nat} {ret : Option FieldType}
    (hown : s.vm.findClass own = some m.cls) (hlink : (Cond.methodLink own index y).before args s = true) (hstat : (Cond.static y).before args s = true) (hinit : (Cond.initialized y.cls).before args s = true)
    (hcode : (Cond.code y bytes maxL ret).before args s = true) (hy : y.cls ≠ "java/lang/invoke/MethodHandle" ∧ y.cls ≠ "java/lang/invoke/VarHandle")
    {W9 : Nat} {Pre : Pt → Array Value → Prop} {Post : Pt → Array Value → Option Value → Pt → Prop} {PostX : Pt → Array Value → Addr → Pt → Prop} (hK : vx_Back l R p e below s args y 3 W9 Pre Post PostX)
    {g : JFrame} (hg : g.method = m) (hsize : g.locals.size = c.maxLocals) {argsL rest : List Value} (hlen : ∀ sig, parseMethodDescriptor y.desc = some sig → argsL.length = sig.parameters.length)
    (hstack : g.stack = argsL.reverse ++ rest) (hW : 2 * g.monitorRoom + (rest.map fun v => v.category).sum ≤ W9) (hdg : decode c.code g.pc = .ok (.invokestatic index, 3))
    (hpre : ∀ vm₁, s.WarmedH vm₁ → Pre ⟨T.setVm vm₁, locs, cells, slots⟩ argsL.toArray) :
    (∃ (v : Option Value) (vm₁ : Vm) (B : Pt), s.WarmedH vm₁ ∧ Stand p l e R s m args below meth c B.U B.locs B.cells B.slots ∧ Post ⟨T.setVm vm₁, locs, cells, slots⟩ argsL.toArray v B ∧
      ∀ target, Steps p.tables e below (B.U.setTop { g with pc := g.pc + 3, stack := v.toList ++ rest }) target → Steps p.tables e below (T.setTop g) target) ∨
    (∃ (q : Addr) (vm₁ : Vm) (B : Pt), s.WarmedH vm₁ ∧ Stand p l e R s m args below meth c B.U B.locs B.cells B.slots ∧ PostX ⟨T.setVm vm₁, locs, cells, slots⟩ argsL.toArray q B ∧
      Steps p.tables e below (T.setTop g) ((B.U.setTop { g with stack := rest }).pushFrame (.throwing q))) := by
  obtain ⟨mk, hnamed⟩ := Cond.code_named hcode
  obtain ⟨methM, cM, hmethM, -, -, -, -, -, -, hsigM⟩ := Cond.code_spec hnamed hcode
  have hstatic : methM.isStatic = true := Cond.static_spec hnamed hmethM hstat
  obtain ⟨kP, hkP, -⟩ := className_of_methodNamed hnamed
  have hinitP : kP.init = .initialized := Cond.initialized_spec (findClass_of_methodNamed hnamed) hkP hinit
  obtain ⟨vm₁, X₁, hstep₁⟩ := X.invokestatic hexec hown hlink hnamed hmethM hstatic hkP hinitP hy (g := g) hg (argsL := argsL) (rest := rest) (hlen _ hsigM) hstack hdg
  rcases hK m meth c ⟨T.setVm vm₁, locs, cells, slots⟩ { g with stack := rest } (.invokestatic index) mk argsL.toArray X₁ hg hsize hdg hW (X₁.named hnamed) (hpre vm₁ X₁.warmed) with ⟨v, B, X', hpost, hsteps⟩ | ⟨q, B, X', hpost, hsteps⟩
  · exact Or.inl ⟨v, vm₁, B, X₁.warmed, X', hpost, fun target h => hstep₁ _ fun acts => by rw [doInvoke_state]; exact hsteps.trans h⟩
  · exact Or.inr ⟨q, vm₁, B, X₁.warmed, X', hpost, hstep₁ _ fun acts => by rw [doInvoke_state]; exact hsteps⟩
end Calls
theorem vx_cls {s : State} {T : State} {vm₁ : Vm} {E : String} {k : ClassId} (hW : s.WarmedH vm₁) (h : (T.setVm vm₁).vm.findClass E = some k) : s.vm.findClass E = some k := by
  have h1 : vm₁.findClass E = some k := h
  rw [hW.alike.findClass] at h1
  exact h1
/-- the method's frame g, with q thrown over it -/
def vx_W (p : Program) (l : Launch) (e : Env) (R : Room) (s : State) (m : MethodId) (args : Array Value) (below : List Frame) (meth : Method) (c : Code) (H : Heap) (locs : List Loc) (cells slots : Nat) (Q : State → Prop) (g : JFrame) (q : Addr) : Prop :=
  ∀ T : State, T.heap = H → Stand p l e R s m args below meth c T locs cells slots → ∃ t, Steps p.tables e below ((T.setTop g).pushFrame (.throwing q)) t ∧ Q t
def vx_Run (p : Program) (l : Launch) (e : Env) (R : Room) (s : State) (m : MethodId) (args : Array Value) (below : List Frame) (meth : Method) (c : Code) (H : Heap) (locs : List Loc) (cells slots mc ms : Nat) (g : JFrame) (rest : List Value) (Qa : State → Outcome → State → Prop) (XC : String → State → State → Prop) (free : Addr → Prop) : Prop :=
  ∀ T : State, T.heap = H → Stand p l e R s m args below meth c T locs cells slots →
    (∃ (v : Option Value) (st₀ t T' : State) (L : List Loc), st₀.heap = H ∧ Stand p l e R s m args below meth c T' (locs ++ L) (cells + mc) (slots + ms) ∧ (∀ q ∈ L, free q.base) ∧ T'.heap = t.heap ∧ T'.vm = t.vm ∧ Qa st₀ (.returned v) t ∧
      Goes p e below T g T' { g with pc := g.pc + 3, stack := v.toList ++ rest }) ∨
    (∃ (q : Addr) (st₀ t T' : State) (L : List Loc) (E : String) (ce : Cell), st₀.heap = H ∧ Stand p l e R s m args below meth c T' (locs ++ L) (cells + mc) (slots + ms) ∧ (∀ z ∈ L, free z.base) ∧ T'.heap = t.heap ∧ T'.vm = t.vm ∧ XC E st₀ t ∧ t.heap[q]? = some ce ∧ ce.vm = .none ∧ s.vm.findClass E = some ce.cls ∧
      Steps p.tables e below (T.setTop g) ((T'.setTop { g with stack := rest }).pushFrame (.throwing q)))
def vx_X {S : Type} (px : S → Prop) (B : String → S → State → Prop) (A : Nat → Prop) : String → State → State → Prop := fun E st t => ∃ u : S, px u ∧ B E u t ∧ va_F A st t
section Runs
variable {p : Program} {l : Launch} {e : Env} {R : Room} {s : State} {m : MethodId} {args : Array Value} {below : List Frame} {meth : Method} {c : Code} {H : Heap} {locs : List Loc} {cells slots : Nat}
variable {y : MethodName} {bytes cc : ByteArray} {maxL nL mc ms n index : Nat} {ret : Option FieldType} {ws : List Cond} {rm : Room} {Pc : Array Value → State → Prop} {Qc : Array Value → State → Outcome → State → Prop} {XC : String → State → State → Prop} {free : Addr → Prop} {Ts : List Cond} {own C : String} {b : Addr} {As rest : List Value} {g : JFrame}
theorem vx_callBack (cb : CallB R s args own index y bytes maxL ret ws rm mc ms n) (hM : vx_Met l y ws rm Pc Qc XC mc ms free) (hbl : FrameBlind Pc) : vx_Back l R p e below s args y 3 8 (PreOf R mc ms Pc) (PostOf Qc mc ms free) (vx_Post XC mc ms free) := by
  obtain ⟨hrc, hrs, hfr, hlo, hws, hcw, -, hini, -⟩ := cb
  exact vx_back (bytes := bytes) (maxL := maxL) (ret := ret) hM hbl hrc hrs hfr hlo hws hcw (fun a' U hW => word_at hW (Or.inl (by first | rfl | simp [Cond.onTables, Cond.keeps, Cond.steady])) hini)
theorem vx_runV (S : CallFix p m c cc nL s args Ts own) (hM : vx_Met l y ws rm Pc Qc XC mc ms free) (cw : CallW R s args own C index y bytes maxL ret ws rm mc ms n) (hp : PreV s H C b Pc As)
    (hg : g.method = m) (hn : As.length = n) (hsize : g.locals.size = nL) (hstack : g.stack = As.reverse ++ .ref b :: rest) (hW : 2 * g.monitorRoom + (rest.map fun v => v.category).sum ≤ 8) (hdg : decode cc g.pc = .ok (.invokevirtual index, 3)) (hf : cells + mc ≤ R.cells ∧ slots + ms ≤ R.slots) :
    vx_Run p l e R s m args below meth c H locs cells slots mc ms g rest (Qc (Value.ref b :: As).toArray) XC free := by
  have hK : vx_Back l R p e below s args y 3 8 (PreOf R mc ms Pc) (PostOf Qc mc ms free) (vx_Post XC mc ms free) := vx_callBack cw.1 hM hp.1
  obtain ⟨⟨-, -, -, -, -, -, hcode, -, hy, hlen, hl⟩, hin, hse⟩ := cw
  obtain ⟨hx, hb, hml, ho, -⟩ := S
  obtain ⟨-, ⟨cellB, hcB, hoB, hclB⟩, hPc⟩ := hp
  intro T hT X
  rcases vx_callV X hx (C := C) (bytes := bytes) (maxL := maxL) (ret := ret) ho hl hin hse hcode hy hK (by rw [hT]; exact hcB) hoB hclB hg (hsize.trans hml.symm) (argsL := As) (rest := rest) (fun sig h => hn.trans (hlen sig h)) hstack hW (by rw [hb]; exact hdg)
    (fun vm₁ hW₁ => ⟨hf.1, hf.2, hPc (T.setVm vm₁) hT hW₁⟩) with ⟨v, vm₁, ⟨U', l2, c2, s2⟩, hW₁, X', ⟨g', mk, t, L, e1, e2, hq, h1, hL, h2, h3⟩, st⟩ | ⟨q, vm₁, ⟨U', l2, c2, s2⟩, hW₁, X', ⟨g', mk, t, L, E, ce, e1, e2, hq, hce, hcv, hcl, h1, hL, h2, h3⟩, st⟩
  · dsimp only [Pt.U, Pt.locs, Pt.cells, Pt.slots] at X' e1 e2 h1 h2 h3 st
    subst h1; subst h2; subst h3
    exact Or.inl ⟨v, (T.setVm vm₁).calling g' mk (Value.ref b :: As).toArray, t, U', L, hT, X', hL, e1, e2, hq, st⟩
  · dsimp only [Pt.U, Pt.locs, Pt.cells, Pt.slots] at X' e1 e2 h1 h2 h3 st hcl
    subst h1; subst h2; subst h3
    exact Or.inr ⟨q, (T.setVm vm₁).calling g' mk (Value.ref b :: As).toArray, t, U', L, E, ce, hT, X', hL, e1, e2, hq, hce, hcv, vx_cls hW₁ hcl, st⟩
theorem vx_runS (S : CallFix p m c cc nL s args Ts own) (hM : vx_Met l y ws rm Pc Qc XC mc ms free) (cw : CallB R s args own index y bytes maxL ret ws rm mc ms n ∧ (Cond.static y).before args s = true) (hp : PreS s H Pc As)
    (hg : g.method = m) (hn : As.length = n) (hsize : g.locals.size = nL) (hstack : g.stack = As.reverse ++ rest) (hW : 2 * g.monitorRoom + (rest.map fun v => v.category).sum ≤ 8) (hdg : decode cc g.pc = .ok (.invokestatic index, 3)) (hf : cells + mc ≤ R.cells ∧ slots + ms ≤ R.slots) :
    vx_Run p l e R s m args below meth c H locs cells slots mc ms g rest (Qc As.toArray) XC free := by
  have hK : vx_Back l R p e below s args y 3 8 (PreOf R mc ms Pc) (PostOf Qc mc ms free) (vx_Post XC mc ms free) := vx_callBack cw.1 hM hp.1
  obtain ⟨⟨-, -, -, -, -, -, hcode, hini, hy, hlen, hl⟩, hstt⟩ := cw
  obtain ⟨hx, hb, hml, ho, -⟩ := S
  intro T hT X
  rcases vx_callS X hx (bytes := bytes) (maxL := maxL) (ret := ret) ho hl hstt hini hcode hy hK hg (hsize.trans hml.symm) (argsL := As) (rest := rest) (fun sig h => hn.trans (hlen sig h)) hstack hW (by rw [hb]; exact hdg)
    (fun vm₁ hW₁ => ⟨hf.1, hf.2, hp.2 (T.setVm vm₁) hT hW₁⟩) with ⟨v, vm₁, ⟨U', l2, c2, s2⟩, hW₁, X', ⟨g', mk, t, L, e1, e2, hq, h1, hL, h2, h3⟩, st⟩ | ⟨q, vm₁, ⟨U', l2, c2, s2⟩, hW₁, X', ⟨g', mk, t, L, E, ce, e1, e2, hq, hce, hcv, hcl, h1, hL, h2, h3⟩, st⟩
  · dsimp only [Pt.U, Pt.locs, Pt.cells, Pt.slots] at X' e1 e2 h1 h2 h3 st
    subst h1; subst h2; subst h3
    exact Or.inl ⟨v, (T.setVm vm₁).calling g' mk As.toArray, t, U', L, hT, X', hL, e1, e2, hq, st⟩
  · dsimp only [Pt.U, Pt.locs, Pt.cells, Pt.slots] at X' e1 e2 h1 h2 h3 st hcl
    subst h1; subst h2; subst h3
    exact Or.inr ⟨q, (T.setVm vm₁).calling g' mk As.toArray, t, U', L, E, ce, hT, X', hL, e1, e2, hq, hce, hcv, vx_cls hW₁ hcl, st⟩
end Runs
section Rows
variable {p : Program} {l : Launch} {e : Env} {R : Room} {s : State} {m : MethodId} {args : Array Value} {below : List Frame} {meth : Method} {c : Code} {H : Heap} {locs : List Loc} {cells slots : Nat} {Q : State → Prop}
variable {mc ms : Nat} {free : Addr → Prop} {A0 A1 : Nat → Prop} {H0 : Heap} {a : Array Value} {pc : Nat} {ls : Array Slot} {st0 rest : List Value}
theorem vx_keep {st₀ t T' : State} {L : List Loc} (h0 : st₀.heap = H) (e1 : T'.heap = t.heap) (hS : va_S A0 H0 H locs) (hA : ∀ q, q < H.size → A1 q → A0 q) (hf : ∀ q, free q → A0 q) (hL : ∀ q ∈ L, free q.base) (hF : va_F A1 st₀ t) :
    H.size ≤ T'.heap.size ∧ (∀ q : Nat, q < H.size → ¬ A1 q → T'.heap[q]? = H[q]?) ∧ va_S A0 H0 T'.heap (locs ++ L) := by
  obtain ⟨hz, hk⟩ := hF
  rw [h0] at hz hk
  exact ⟨by rw [e1]; exact hz, fun q h1 h2 => by rw [e1]; exact hk q h1 h2,
    ⟨Nat.le_trans hS.1 (by rw [e1]; exact hz), fun q h1 h2 => by rw [e1, hk q (Nat.lt_of_lt_of_le h1 hS.1) (fun z => h2 (hA q (Nat.lt_of_lt_of_le h1 hS.1) z))]; exact hS.2.1 q h1 h2, fun q hq => by
      rcases List.mem_append.mp hq with h | h
      · exact hS.2.2 q h
      · exact hf _ (hL q h)⟩⟩
theorem vx_calli {S SX : Type} {post : Int32 → S → Prop} {px : SX → Prop} {B : S → State → Prop} {BX : String → SX → State → Prop} {AX : Nat → Prop} (hr : vx_Run p l e R s m args below meth c H locs cells slots mc ms (F0 m pc ls st0) rest (va_Qi post B A1 a) (vx_X px BX AX) free) (hS : va_S A0 H0 H locs) (hA : ∀ q, q < H.size → A1 q → A0 q) (hf : ∀ q, free q → A0 q) (hAX : ∀ q, q < H.size → AX q → A0 q)
    (kx : ∀ (E : String) (ce : Cell) (q9 : Addr) (u : SX) (t : State) (H1 : Heap) (locs1 : List Loc), t.heap = H1 → s.vm.Alike t.vm → px u → BX E u t → H.size ≤ H1.size → (∀ q : Nat, q < H.size → ¬ AX q → H1[q]? = H[q]?) → va_S A0 H0 H1 locs1 → H1[q9]? = some ce → ce.vm = .none → s.vm.findClass E = some ce.cls → vx_W p l e R s m args below meth c H1 locs1 (cells + mc) (slots + ms) Q (F0 m pc ls rest) q9)
    (kk : ∀ (r : Int32) (u : S) (t : State) (H1 : Heap) (locs1 : List Loc), t.heap = H1 → s.vm.Alike t.vm → post r u → B u t → H.size ≤ H1.size → (∀ q : Nat, q < H.size → ¬ A1 q → H1[q]? = H[q]?) → va_S A0 H0 H1 locs1 → W p l e R s m args below meth c H1 locs1 (cells + mc) (slots + ms) Q (F0 m (pc + 3) ls (.int r :: rest))) : W p l e R s m args below meth c H locs cells slots Q (F0 m pc ls st0) := by
  intro T hT X
  rcases hr T hT X with ⟨v, st₀, t, T', L, h0, X', hL, e1, e2, ⟨⟨r, u, hv, hp, hb⟩, hF⟩, st⟩ | ⟨q, st₀, t, T', L, E, ce, h0, X', hL, e1, e2, ⟨u, hp, hb, hF⟩, hce, hcv, hcl, st⟩
  · cases hv
    obtain ⟨k1, k2, k3⟩ := vx_keep h0 e1 hS hA hf hL hF
    obtain ⟨t2, a1, b1⟩ := kk r u t T'.heap (locs ++ L) e1.symm (by rw [← e2]; exact X'.warmed.alike) hp hb k1 k2 k3 T' rfl X'
    exact ⟨t2, st t2 a1, b1⟩
  · obtain ⟨k1, k2, k3⟩ := vx_keep h0 e1 hS hAX hf hL hF
    obtain ⟨t2, a1, b1⟩ := kx E ce q u t T'.heap (locs ++ L) e1.symm (by rw [← e2]; exact X'.warmed.alike) hp hb k1 k2 k3 (by rw [e1]; exact hce) hcv hcl T' rfl X'
    exact ⟨t2, st.trans a1, b1⟩
theorem vx_calll {S SX : Type} {post : Int64 → S → Prop} {px : SX → Prop} {B : S → State → Prop} {BX : String → SX → State → Prop} {AX : Nat → Prop} (hr : vx_Run p l e R s m args below meth c H locs cells slots mc ms (F0 m pc ls st0) rest (va_Ql post B A1 a) (vx_X px BX AX) free) (hS : va_S A0 H0 H locs) (hA : ∀ q, q < H.size → A1 q → A0 q) (hf : ∀ q, free q → A0 q) (hAX : ∀ q, q < H.size → AX q → A0 q)
    (kx : ∀ (E : String) (ce : Cell) (q9 : Addr) (u : SX) (t : State) (H1 : Heap) (locs1 : List Loc), t.heap = H1 → s.vm.Alike t.vm → px u → BX E u t → H.size ≤ H1.size → (∀ q : Nat, q < H.size → ¬ AX q → H1[q]? = H[q]?) → va_S A0 H0 H1 locs1 → H1[q9]? = some ce → ce.vm = .none → s.vm.findClass E = some ce.cls → vx_W p l e R s m args below meth c H1 locs1 (cells + mc) (slots + ms) Q (F0 m pc ls rest) q9)
    (kk : ∀ (r : Int64) (u : S) (t : State) (H1 : Heap) (locs1 : List Loc), t.heap = H1 → s.vm.Alike t.vm → post r u → B u t → H.size ≤ H1.size → (∀ q : Nat, q < H.size → ¬ A1 q → H1[q]? = H[q]?) → va_S A0 H0 H1 locs1 → W p l e R s m args below meth c H1 locs1 (cells + mc) (slots + ms) Q (F0 m (pc + 3) ls (.long r :: rest))) : W p l e R s m args below meth c H locs cells slots Q (F0 m pc ls st0) := by
  intro T hT X
  rcases hr T hT X with ⟨v, st₀, t, T', L, h0, X', hL, e1, e2, ⟨⟨r, u, hv, hp, hb⟩, hF⟩, st⟩ | ⟨q, st₀, t, T', L, E, ce, h0, X', hL, e1, e2, ⟨u, hp, hb, hF⟩, hce, hcv, hcl, st⟩
  · cases hv
    obtain ⟨k1, k2, k3⟩ := vx_keep h0 e1 hS hA hf hL hF
    obtain ⟨t2, a1, b1⟩ := kk r u t T'.heap (locs ++ L) e1.symm (by rw [← e2]; exact X'.warmed.alike) hp hb k1 k2 k3 T' rfl X'
    exact ⟨t2, st t2 a1, b1⟩
  · obtain ⟨k1, k2, k3⟩ := vx_keep h0 e1 hS hAX hf hL hF
    obtain ⟨t2, a1, b1⟩ := kx E ce q u t T'.heap (locs ++ L) e1.symm (by rw [← e2]; exact X'.warmed.alike) hp hb k1 k2 k3 (by rw [e1]; exact hce) hcv hcl T' rfl X'
    exact ⟨t2, st.trans a1, b1⟩
theorem vx_callf {S SX : Type} {post : UInt32 → S → Prop} {px : SX → Prop} {B : S → State → Prop} {BX : String → SX → State → Prop} {AX : Nat → Prop} (hr : vx_Run p l e R s m args below meth c H locs cells slots mc ms (F0 m pc ls st0) rest (va_Qf post B A1 a) (vx_X px BX AX) free) (hS : va_S A0 H0 H locs) (hA : ∀ q, q < H.size → A1 q → A0 q) (hf : ∀ q, free q → A0 q) (hAX : ∀ q, q < H.size → AX q → A0 q)
    (kx : ∀ (E : String) (ce : Cell) (q9 : Addr) (u : SX) (t : State) (H1 : Heap) (locs1 : List Loc), t.heap = H1 → s.vm.Alike t.vm → px u → BX E u t → H.size ≤ H1.size → (∀ q : Nat, q < H.size → ¬ AX q → H1[q]? = H[q]?) → va_S A0 H0 H1 locs1 → H1[q9]? = some ce → ce.vm = .none → s.vm.findClass E = some ce.cls → vx_W p l e R s m args below meth c H1 locs1 (cells + mc) (slots + ms) Q (F0 m pc ls rest) q9)
    (kk : ∀ (r : UInt32) (u : S) (t : State) (H1 : Heap) (locs1 : List Loc), t.heap = H1 → s.vm.Alike t.vm → post r u → B u t → H.size ≤ H1.size → (∀ q : Nat, q < H.size → ¬ A1 q → H1[q]? = H[q]?) → va_S A0 H0 H1 locs1 → W p l e R s m args below meth c H1 locs1 (cells + mc) (slots + ms) Q (F0 m (pc + 3) ls (.float r :: rest))) : W p l e R s m args below meth c H locs cells slots Q (F0 m pc ls st0) := by
  intro T hT X
  rcases hr T hT X with ⟨v, st₀, t, T', L, h0, X', hL, e1, e2, ⟨⟨r, u, hv, hp, hb⟩, hF⟩, st⟩ | ⟨q, st₀, t, T', L, E, ce, h0, X', hL, e1, e2, ⟨u, hp, hb, hF⟩, hce, hcv, hcl, st⟩
  · cases hv
    obtain ⟨k1, k2, k3⟩ := vx_keep h0 e1 hS hA hf hL hF
    obtain ⟨t2, a1, b1⟩ := kk r u t T'.heap (locs ++ L) e1.symm (by rw [← e2]; exact X'.warmed.alike) hp hb k1 k2 k3 T' rfl X'
    exact ⟨t2, st t2 a1, b1⟩
  · obtain ⟨k1, k2, k3⟩ := vx_keep h0 e1 hS hAX hf hL hF
    obtain ⟨t2, a1, b1⟩ := kx E ce q u t T'.heap (locs ++ L) e1.symm (by rw [← e2]; exact X'.warmed.alike) hp hb k1 k2 k3 (by rw [e1]; exact hce) hcv hcl T' rfl X'
    exact ⟨t2, st.trans a1, b1⟩
theorem vx_calld {S SX : Type} {post : UInt64 → S → Prop} {px : SX → Prop} {B : S → State → Prop} {BX : String → SX → State → Prop} {AX : Nat → Prop} (hr : vx_Run p l e R s m args below meth c H locs cells slots mc ms (F0 m pc ls st0) rest (va_Qd post B A1 a) (vx_X px BX AX) free) (hS : va_S A0 H0 H locs) (hA : ∀ q, q < H.size → A1 q → A0 q) (hf : ∀ q, free q → A0 q) (hAX : ∀ q, q < H.size → AX q → A0 q)
    (kx : ∀ (E : String) (ce : Cell) (q9 : Addr) (u : SX) (t : State) (H1 : Heap) (locs1 : List Loc), t.heap = H1 → s.vm.Alike t.vm → px u → BX E u t → H.size ≤ H1.size → (∀ q : Nat, q < H.size → ¬ AX q → H1[q]? = H[q]?) → va_S A0 H0 H1 locs1 → H1[q9]? = some ce → ce.vm = .none → s.vm.findClass E = some ce.cls → vx_W p l e R s m args below meth c H1 locs1 (cells + mc) (slots + ms) Q (F0 m pc ls rest) q9)
    (kk : ∀ (r : UInt64) (u : S) (t : State) (H1 : Heap) (locs1 : List Loc), t.heap = H1 → s.vm.Alike t.vm → post r u → B u t → H.size ≤ H1.size → (∀ q : Nat, q < H.size → ¬ A1 q → H1[q]? = H[q]?) → va_S A0 H0 H1 locs1 → W p l e R s m args below meth c H1 locs1 (cells + mc) (slots + ms) Q (F0 m (pc + 3) ls (.double r :: rest))) : W p l e R s m args below meth c H locs cells slots Q (F0 m pc ls st0) := by
  intro T hT X
  rcases hr T hT X with ⟨v, st₀, t, T', L, h0, X', hL, e1, e2, ⟨⟨r, u, hv, hp, hb⟩, hF⟩, st⟩ | ⟨q, st₀, t, T', L, E, ce, h0, X', hL, e1, e2, ⟨u, hp, hb, hF⟩, hce, hcv, hcl, st⟩
  · cases hv
    obtain ⟨k1, k2, k3⟩ := vx_keep h0 e1 hS hA hf hL hF
    obtain ⟨t2, a1, b1⟩ := kk r u t T'.heap (locs ++ L) e1.symm (by rw [← e2]; exact X'.warmed.alike) hp hb k1 k2 k3 T' rfl X'
    exact ⟨t2, st t2 a1, b1⟩
  · obtain ⟨k1, k2, k3⟩ := vx_keep h0 e1 hS hAX hf hL hF
    obtain ⟨t2, a1, b1⟩ := kx E ce q u t T'.heap (locs ++ L) e1.symm (by rw [← e2]; exact X'.warmed.alike) hp hb k1 k2 k3 (by rw [e1]; exact hce) hcv hcl T' rfl X'
    exact ⟨t2, st.trans a1, b1⟩
theorem vx_callv {S SX : Type} {post : S → Prop} {px : SX → Prop} {B : S → State → Prop} {BX : String → SX → State → Prop} {AX : Nat → Prop} (hr : vx_Run p l e R s m args below meth c H locs cells slots mc ms (F0 m pc ls st0) rest (va_Qv post B A1 a) (vx_X px BX AX) free) (hS : va_S A0 H0 H locs) (hA : ∀ q, q < H.size → A1 q → A0 q) (hf : ∀ q, free q → A0 q) (hAX : ∀ q, q < H.size → AX q → A0 q)
    (kx : ∀ (E : String) (ce : Cell) (q9 : Addr) (u : SX) (t : State) (H1 : Heap) (locs1 : List Loc), t.heap = H1 → s.vm.Alike t.vm → px u → BX E u t → H.size ≤ H1.size → (∀ q : Nat, q < H.size → ¬ AX q → H1[q]? = H[q]?) → va_S A0 H0 H1 locs1 → H1[q9]? = some ce → ce.vm = .none → s.vm.findClass E = some ce.cls → vx_W p l e R s m args below meth c H1 locs1 (cells + mc) (slots + ms) Q (F0 m pc ls rest) q9)
    (kk : ∀ (u : S) (t : State) (H1 : Heap) (locs1 : List Loc), t.heap = H1 → s.vm.Alike t.vm → post u → B u t → H.size ≤ H1.size → (∀ q : Nat, q < H.size → ¬ A1 q → H1[q]? = H[q]?) → va_S A0 H0 H1 locs1 → W p l e R s m args below meth c H1 locs1 (cells + mc) (slots + ms) Q (F0 m (pc + 3) ls (rest))) : W p l e R s m args below meth c H locs cells slots Q (F0 m pc ls st0) := by
  intro T hT X
  rcases hr T hT X with ⟨v, st₀, t, T', L, h0, X', hL, e1, e2, ⟨⟨u, hv, hp, hb⟩, hF⟩, st⟩ | ⟨q, st₀, t, T', L, E, ce, h0, X', hL, e1, e2, ⟨u, hp, hb, hF⟩, hce, hcv, hcl, st⟩
  · cases hv
    obtain ⟨k1, k2, k3⟩ := vx_keep h0 e1 hS hA hf hL hF
    obtain ⟨t2, a1, b1⟩ := kk u t T'.heap (locs ++ L) e1.symm (by rw [← e2]; exact X'.warmed.alike) hp hb k1 k2 k3 T' rfl X'
    exact ⟨t2, st t2 a1, b1⟩
  · obtain ⟨k1, k2, k3⟩ := vx_keep h0 e1 hS hAX hf hL hF
    obtain ⟨t2, a1, b1⟩ := kx E ce q u t T'.heap (locs ++ L) e1.symm (by rw [← e2]; exact X'.warmed.alike) hp hb k1 k2 k3 (by rw [e1]; exact hce) hcv hcl T' rfl X'
    exact ⟨t2, st.trans a1, b1⟩
end Rows
section Ends
variable {p : Program} {l : Launch} {e : Env} {R : Room} {s : State} {m : MethodId} {args : Array Value} {below : List Frame} {meth : Method} {c : Code} {H : Heap} {locs : List Loc} {cells slots : Nat} {Q : State → Prop}
variable {mc ms : Nat} {free : Addr → Prop} {A0 A1 : Nat → Prop} {H0 : Heap} {a : Array Value} {ls : Array Slot} {st0 rest : List Value}
variable {Qc : Array Value → State → Outcome → State → Prop} {XC : String → State → State → Prop}
/-- what a body that may throw owes at its end -/
def vx_MQ (below : List Frame) (Qc : Array Value → State → Outcome → State → Prop) (XC : String → State → State → Prop) (a : Array Value) (s : State) (mc ms : Nat) (free : Addr → Prop) : State → Prop := fun t =>
  ∃ o, t.status = .running ∧ Ended t below o ∧ vx_Q Qc XC mc ms free a s o t
theorem vx_ret {g : JFrame} {mc ms : Nat} (k : W p l e R s m args below meth c H locs cells slots (MQ below Qc args s mc ms free) g) : W p l e R s m args below meth c H locs cells slots (vx_MQ below Qc XC args s mc ms free) g := by
  intro T hT X
  obtain ⟨t, a1, o, b1, b2, b3, b4⟩ := k T hT X
  exact ⟨t, a1, o, b1, b2, Or.inl ⟨b3, b4⟩⟩
/-- not caught here: it goes on to the caller -/
theorem vx_widen {g : JFrame} {q : Addr} {k n : Nat} (h1 : cells ≤ k) (h2 : slots ≤ n) (kk : vx_W p l e R s m args below meth c H locs k n Q g q) : vx_W p l e R s m args below meth c H locs cells slots Q g q := fun T hT X => kk T hT (stand_widen X h1 h2)
theorem vx_out {pc : Nat} {E : String} {ce : Cell} {q : Addr} {mc ms : Nat} (hout : ∀ x ∈ c.exceptionTable.toList, covers x pc = false) (hlocks : meth.locks = false) (hcell : H[q]? = some ce) (hv : ce.vm = .none) (hcl : s.vm.findClass E = some ce.cls)
    (hx : ∀ t : State, t.heap = H → s.vm.Alike t.vm → XC E s t) (hf : ∀ z ∈ locs, free z.base) (hc : cells ≤ mc) (hs : slots ≤ ms) :
    vx_W p l e R s m args below meth c H locs cells slots (vx_MQ below Qc XC args s mc ms free) (F0 m pc ls rest) q := by
  intro T hT X
  obtain ⟨st1, hrun, hend, hW, hsm⟩ := X.leaveThrown q (g := F0 m pc ls rest) rfl rfl rfl hout hlocks
  have hcell9 : (T.setFrames (.throwing q :: below)).heap[q]? = some ce := by
    show T.heap[q]? = some ce
    rw [hT]; exact hcell
  exact ⟨_, st1, .threw q, hrun, hend, Or.inr ⟨q, rfl, E, ce, locs, hx _ hT hW.alike, hcell9, hv, hcl, hW, hsm.mono hc hs, hf⟩⟩
theorem vx_frame {U : State} {k n : Nat} (h : s.sameButNew ({ U with vm := s.vm } : State) locs k n) : s.heap.size ≤ U.heap.size ∧ ∀ q : Nat, q < s.heap.size → (∀ z ∈ locs, z.base ≠ q) → U.heap[q]? = s.heap[q]? := by
  obtain ⟨-, h2, -, -, -, h6⟩ := h
  refine ⟨h2, fun q hq hz => ?_⟩
  obtain ⟨c9, e1, e2, e3, e4⟩ := h6 q _ (Array.getElem?_eq_getElem hq)
  have hs : c9.slots = (s.heap[q]).slots := Array.ext_getElem? fun i => e4 i fun hm => hz _ hm rfl
  have h9 : c9 = s.heap[q] := by
    rw [hs] at e2
    exact e2
  have e5 : U.heap[q]? = some c9 := e1
  rw [e5, h9, Array.getElem?_eq_getElem hq]
/-- the words of a throw but the four that speak of the heap -/
def vx_no (w : Cond) : Bool := decide (w ≠ .isRef (.static Bundle.tN "UNASSIGNED_STACK" Bundle.steD)) && decide (w ≠ .isRef (.static Bundle.tN "SUPPRESSED_SENTINEL" Bundle.listD)) && decide (w ≠ .laysStatic Bundle.tN "UNASSIGNED_STACK" Bundle.steD) && decide (w ≠ .laysStatic Bundle.tN "SUPPRESSED_SENTINEL" Bundle.listD)
def vx_at0 (own : String) (ic : Nat) (X : String) (names : List String) : List Cond := (Bundle.ownAtoms0 own ic X names).filter vx_no
def vx_atS (own : String) (ic : Nat) (X : String) (names : List String) : List Cond := (Bundle.ownAtoms own ic X names).filter vx_no
/-- a word that the tables alone decide, or a good one -/
def vx_ot (w : Cond) : Bool := w.onTables || goodWord w
theorem vx_ot_at {args a' : Array Value} {s U : State} {w : Cond} (hW : s.WarmedH U.vm) (hvm : s.vm = U.vm) (hg : vx_ot w = true) (h : w.before args s = true) : w.before a' U = true := by
  simp only [vx_ot, Bool.or_eq_true] at hg
  rcases hg with hg | hg
  · exact va_tabs hg hvm h
  · exact word_at hW (good_of_word hg) h
/-- a list's words: the good ones out of the method's own list, the others by premises of their own -/
theorem vx_hat {args : Array Value} {s : State} {L B : List Cond} (h1 : ∀ w ∈ L.filter goodWord, w.before args s = true) (h2 : ∀ w ∈ L.filter (fun w => !goodWord w), w ∈ B) (h3 : ∀ w ∈ B, w.before args s = true) : ∀ w ∈ L, w.before args s = true := by
  intro w hw
  by_cases g : goodWord w = true
  · exact h1 w (List.mem_filter.mpr ⟨hw, g⟩)
  · refine h3 w (h2 w (List.mem_filter.mpr ⟨hw, ?_⟩))
    show (!goodWord w) = true
    cases hgw : goodWord w
    · rfl
    · exact absurd hgw g
theorem vx_c {args : Array Value} {s : State} {w : Cond} {B : List Cond} (h : w.before args s = true) (t : ∀ w ∈ B, w.before args s = true) : ∀ w' ∈ w :: B, w'.before args s = true := fun w' h' => (List.mem_cons.mp h').elim (fun e => by rw [e]; exact h) (t w')
theorem vx_n {args : Array Value} {s : State} : ∀ w ∈ ([] : List Cond), w.before args s = true := fun _ h => nomatch h
theorem vx_own {args : Array Value} {s : State} {L : List Cond} (h1 : ∀ w ∈ L.filter vx_no, w.before args s = true)
    (hU : (Cond.isRef (.static Bundle.tN "UNASSIGNED_STACK" Bundle.steD)).before args s = true) (hN : (Cond.isRef (.static Bundle.tN "SUPPRESSED_SENTINEL" Bundle.listD)).before args s = true)
    (lU : (Cond.laysStatic Bundle.tN "UNASSIGNED_STACK" Bundle.steD).before args s = true) (lN : (Cond.laysStatic Bundle.tN "SUPPRESSED_SENTINEL" Bundle.listD).before args s = true) : ∀ w ∈ L, w.before args s = true := by
  intro w hw
  by_cases e1 : w = .isRef (.static Bundle.tN "UNASSIGNED_STACK" Bundle.steD)
  · rw [e1]; exact hU
  · by_cases e2 : w = .isRef (.static Bundle.tN "SUPPRESSED_SENTINEL" Bundle.listD)
    · rw [e2]; exact hN
    · by_cases e3 : w = .laysStatic Bundle.tN "UNASSIGNED_STACK" Bundle.steD
      · rw [e3]; exact lU
      · by_cases e4 : w = .laysStatic Bundle.tN "SUPPRESSED_SENTINEL" Bundle.listD
        · rw [e4]; exact lN
        · exact h1 w (List.mem_filter.mpr ⟨hw, by unfold vx_no; rw [decide_eq_true e1, decide_eq_true e2, decide_eq_true e3, decide_eq_true e4]; rfl⟩)
/-- where a static field lies, its class's statics cell in H -/
def vx_L (C n d : String) (A : Nat → Prop) (U : State) (H : Heap) : Prop := ∃ (c : ClassId) (k : Class) (i : Nat) (f : Field) (a : Nat) (cell : Cell), U.vm.findClass C = some c ∧ U.fieldFound? C n d = some (c, k, i, f) ∧ f.isStatic = true ∧ k.statics = some a ∧ H[a]? = some cell ∧ cell.vm.isStatics = true ∧ cell.cls = c ∧ f.slot < cell.slots.size ∧ k.staticTypes[f.slot]? = some f.type ∧ ¬ A a
theorem vx_L.moved {C n d : String} {A : Nat → Prop} {u U : State} {H : Heap} (hvm : u.vm.Alike U.vm) (h : vx_L C n d A u H) : vx_L C n d A U H := by
  obtain ⟨c, k, i, f, a, cell, h1, h2, h3, h4, h5, h6, h7, h8, h9, h10⟩ := h
  obtain ⟨k', hi', he⟩ := State.fieldFound?_setVm hvm h2
  exact ⟨c, k', i, f, a, cell, by rw [hvm.findClass]; exact h1, hi', h3, by rw [he]; exact h4, h5, h6, h7, h8, by rw [he]; exact h9, h10⟩
theorem vx_L.kept {C n d : String} {A : Nat → Prop} {U : State} {H H1 : Heap} (h : vx_L C n d A U H) (hq : ∀ a : Nat, a < H.size → ¬ A a → H1[a]? = H[a]?) : vx_L C n d A U H1 := by
  obtain ⟨c, k, i, f, a, cell, h1, h2, h3, h4, h5, h6, h7, h8, h9, h10⟩ := h
  exact ⟨c, k, i, f, a, cell, h1, h2, h3, h4, by rw [hq a (Array.getElem?_eq_some_iff.mp h5).1 h10]; exact h5, h6, h7, h8, h9, h10⟩
theorem vx_L.narrow {C n d : String} {A B : Nat → Prop} {U : State} {H : Heap} (h : vx_L C n d A U H) (hAB : ∀ q, B q → A q) : vx_L C n d B U H := by
  obtain ⟨c, k, i, f, a, cell, h1, h2, h3, h4, h5, h6, h7, h8, h9, h10⟩ := h
  exact ⟨c, k, i, f, a, cell, h1, h2, h3, h4, h5, h6, h7, h8, h9, fun z => h10 (hAB _ z)⟩
theorem vx_L.word {C n d : String} {A : Nat → Prop} {s : State} {args : Array Value} (h : vx_L C n d A s s.heap) : (Cond.laysStatic C n d).before args s = true := by
  obtain ⟨c, k, i, f, a, cell, h1, h2, h3, h4, h5, h6, h7, h8, h9, -⟩ := h
  show (Cond.laysStatic C n d).holds args s none s [] = true
  exact Cond.laysStatic_of h1 h2 h3 h4 h5 h6 h7 h8 h9
/-- .. and what it holds: null or some reference -/
def vx_Zq (C n d : String) (A : Nat → Prop) (U : State) (H : Heap) : Prop := va_Zq C n d A U H ∧ vx_L C n d A U H
theorem vx_Zq.moved {C n d : String} {A : Nat → Prop} {u U : State} {H : Heap} (hvm : u.vm.Alike U.vm) (h : vx_Zq C n d A u H) : vx_Zq C n d A U H := ⟨va_Zq.moved hvm h.1, vx_L.moved hvm h.2⟩
theorem vx_Zq.kept {C n d : String} {A : Nat → Prop} {U : State} {H H1 : Heap} (h : vx_Zq C n d A U H) (hq : ∀ a : Nat, a < H.size → ¬ A a → H1[a]? = H[a]?) : vx_Zq C n d A U H1 := ⟨va_Zq.kept h.1 hq, vx_L.kept h.2 hq⟩
theorem vx_Zq.narrow {C n d : String} {A B : Nat → Prop} {U : State} {H : Heap} (h : vx_Zq C n d A U H) (hAB : ∀ q, B q → A q) : vx_Zq C n d B U H := ⟨va_Zq.narrow h.1 hAB, vx_L.narrow h.2 hAB⟩
theorem vx_Zqof {args : Array Value} {s : State} {C n d : String} {A : Nat → Prop} (hl : (Cond.laysStatic C n d).before args s = true) (hini : (Cond.initialized C).before args s = true) (h : (Cond.isRef (.static C n d)).before args s = true) (hA : ∀ a : Nat, a < s.heap.size → ¬ A a) : vx_Zq C n d A s s.heap := by
  refine ⟨va_Zqof hl hini h hA, ?_⟩
  obtain ⟨c, k, i, f, a, cell, h1, h2, h3, h4, h5, h6, h7, h8, h9⟩ := Cond.laysStatic_spec hl
  exact ⟨c, k, i, f, a, cell, h1, h2, h3, h4, h5, h6, h7, h8, h9, hA a (Array.getElem?_eq_some_iff.mp h5).1⟩
theorem vx_isRef {C n d : String} {v : Value} {A : Nat → Prop} {s : State} {args : Array Value} (h : va_Z C n d v A s s.heap) (hv : v.isRef = true) : (Cond.isRef (.static C n d)).before args s = true := by
  obtain ⟨cf, kf, fi, f, a, cell, h1, h2, h3, h4, h5, h6, h7, -⟩ := h
  have he : (Term.static C n d).eval args s none [] s = some v := by
    simp [Term.eval, State.fieldNamed?, h1, h2, h4, h5, h6, h7]
  simp only [Cond.before, Cond.holds, Cond.value, he]
  cases v <;> simp_all [Value.isRef]
theorem vx_isRefq {C n d : String} {A : Nat → Prop} {s : State} {args : Array Value} (h : va_Zq C n d A s s.heap) : (Cond.isRef (.static C n d)).before args s = true := by
  rcases h with h | ⟨t, h⟩
  · exact vx_isRef h rfl
  · exact vx_isRef h rfl
/-- the same frame, seen from here: as if the method were called anew in this heap -/
theorem vx_rebase {T : State} (X : Stand p l e R s m args below meth c T locs cells slots) {R' : Room} (hf : R'.frames ≤ R.frames) (hl : R'.locals ≤ R.locals) (hc : cells + R'.cells ≤ R.cells) (hs : slots + R'.slots ≤ R.slots) :
    Stand p l e R' ((T.setVm s.vm).setFrames (.invoking m args :: below)) m args below meth c T [] 0 0 := by
  have htop : (T.setVm s.vm).topJava?.isSome := X.here.top
  have hF : ((T.setVm s.vm).setFrames (.invoking m args :: below)).frames = .invoking m args :: below := State.frames_setFrames _ (State.cur_lt_of_top htop)
  obtain ⟨g₀, hg0⟩ := Option.isSome_iff_exists.mp htop
  obtain ⟨r, hr⟩ := State.topJava?_eq_some.mp hg0
  have hl9 : e.platform.stackLimits (T.setVm s.vm).me = e.platform.stackLimits s.me := X.limits
  have hb9 : (T.setVm s.vm).me.stackBytes = s.me.stackBytes := X.bytes
  refine ⟨X.admits, X.cas, X.clock, hF, ?_, X.hears, X.method, X.code, X.here, X.tail, X.warmed, ?_, ?_, ?_⟩
  · have h := X.room
    have hU : ((T.setVm s.vm).setFrames (.invoking m args :: below)).localsInUse = s.localsInUse := by
      rw [State.localsInUse_invoking hF (meth := meth) (c := c) X.method X.code, State.localsInUse_invoking X.frames X.method X.code]
    simp only [State.hasRoom, Bool.and_eq_true, decide_eq_true_eq] at h ⊢
    obtain ⟨⟨⟨⟨h1, h2, h3, h4, h5, h6⟩, h7⟩, h8⟩, h9⟩ := h
    rw [X.frames, List.length_cons] at h2 h3
    have q1 := X.heapSize
    have q2 := X.used
    simp only [hF, hU, List.length_cons, State.stackLimits_setFrames, State.stackBytes_setFrames, hl9, hb9]
    refine ⟨⟨⟨⟨by omega, by omega, by omega, by omega, by omega, h6⟩, ?_⟩, ?_⟩, X.book⟩
    · show T.heap.size + R'.cells ≤ e.platform.maxCells
      omega
    · show T.slotsUsed + R'.slots ≤ e.platform.maxSlots
      omega
  · rw [State.stackLimits_setFrames]; rfl
  · rw [State.stackBytes_setFrames]; rfl
  · refine ⟨?_, Nat.le_refl _, Nat.le_refl _, ?_, ?_, fun a c9 h9 => ⟨c9, h9, rfl, rfl, fun _ _ => rfl⟩⟩
    · obtain ⟨t, ht, -⟩ := State.frames_cons hr
      show T.setVm s.vm = { ((T.setVm s.vm).setFrames (.invoking m args :: below)).setFrames (T.setVm s.vm).frames with heap := T.heap, slotsUsed := T.slotsUsed }
      rw [State.setFrames_setFrames, State.setFrames_self ht]
      rfl
    · show T.slotsUsed = T.slotsUsed + ((T.heap.toList.drop T.heap.size).map (·.slots.size)).sum
      rw [List.drop_eq_nil_of_le (Nat.le_of_eq Array.length_toList)]
      rfl
    · show ((T.heap.toList.drop T.heap.size).map (·.slots.size)).sum ≤ 0
      rw [List.drop_eq_nil_of_le (Nat.le_of_eq Array.length_toList)]
      exact Nat.le_refl _
/-- 'throw new E()': new; dup; invokespecial; athrow -/
theorem vx_throw0 {cc : ByteArray} {pc : Nat} (hexec : p.tables.exec = Jvm.exec) (hb : c.code = cc) (hl : l.stackTraces = false) {own cls : String} {names : List String} {ik ic mc ms : Nat} {A : Nat → Prop}
    (hown : s.vm.findClass own = some m.cls) (hcls : Bundle.fit cls = true) (hnames : ∀ n ∈ names, Bundle.fit n = true)
    (hk : (Cond.classLink own ik cls).before args s = true) (hini : (Cond.initialized cls).before args s = true) (hat : ∀ w ∈ vx_at0 own ic cls names, w.before args s = true)
    (hgood : ∀ w ∈ Cond.classLink own ik cls :: Cond.initialized cls :: vx_at0 own ic cls names, vx_ot w = true)
    (hU : vx_Zq Bundle.tN "UNASSIGNED_STACK" Bundle.steD A s s.heap) (hN : vx_Zq Bundle.tN "SUPPRESSED_SENTINEL" Bundle.listD A s s.heap) (hS : va_S A s.heap H locs) (hsize : ls.size = c.maxLocals)
    (d0 : decode cc pc = .ok (.new ik, 3)) (d3 : decode cc (pc + 3) = .ok (.dup, 1)) (d4 : decode cc (pc + 4) = .ok (.invokespecial ic, 3)) (d7 : decode cc (pc + 7) = .ok (.athrow, 1))
    (hout : ∀ x ∈ c.exceptionTable.toList, covers x (pc + 7) = false)
    (hRframes : names.length + 3 < R.frames) (hRlocals : (rest.map fun v => v.category).sum + (13 * (names.length + 1) + 42) ≤ R.locals) (hRcells : cells + 1 ≤ R.cells) (hRslots : slots + 6 ≤ R.slots) (hlocks : meth.locks = false)
    (hx : ∀ t : State, s.vm.Alike t.vm → H.size ≤ t.heap.size → (∀ q : Nat, q < H.size → t.heap[q]? = H[q]?) → XC cls s t)
    (hf : ∀ z ∈ locs, free z.base) (hc : cells + 1 ≤ mc) (hs : slots + 6 ≤ ms) :
    W p l e R s m args below meth c H locs cells slots (vx_MQ below Qc XC args s mc ms free) (F0 m pc ls rest) := by
  intro T hT X
  have htr : e.platform.stackTraces = false := (show e.platform.stackTraces = l.stackTraces by rw [X.admits.platform]).trans hl
  have Y := vx_rebase X (R' := { frames := R.frames, locals := R.locals, cells := 1, slots := 6 }) (Nat.le_refl _) (Nat.le_refl _) hRcells hRslots
  obtain ⟨s', hA⟩ : ∃ z, z = (T.setVm s.vm).setFrames (.invoking m args :: below) := ⟨_, rfl⟩
  rw [← hA] at Y
  have hvm : s'.vm = s.vm := by rw [hA]; rfl
  have hhp : s'.heap = H := by rw [hA]; exact hT
  have hW0 : s.WarmedH s'.vm := by rw [hvm]; exact State.WarmedH.refl s
  have hat' : ∀ w ∈ vx_at0 own ic cls names, w.before args s' = true := fun w hw => vx_ot_at hW0 hvm.symm (hgood w (List.mem_cons_of_mem _ (List.mem_cons_of_mem _ hw))) (hat w hw)
  have hk' : (Cond.classLink own ik cls).before args s' = true := vx_ot_at hW0 hvm.symm (hgood _ List.mem_cons_self) hk
  have hini' : (Cond.initialized cls).before args s' = true := vx_ot_at hW0 hvm.symm (hgood _ (List.mem_cons_of_mem _ List.mem_cons_self)) hini
  have hU' : vx_Zq Bundle.tN "UNASSIGNED_STACK" Bundle.steD A s' s'.heap := by rw [hhp]; exact vx_Zq.moved hW0.alike (hU.kept hS.2.1)
  have hN' : vx_Zq Bundle.tN "SUPPRESSED_SENTINEL" Bundle.listD A s' s'.heap := by rw [hhp]; exact vx_Zq.moved hW0.alike (hN.kept hS.2.1)
  have h : ∀ w ∈ Bundle.ownAtoms0 own ic cls names, w.before args s' = true := vx_own hat' (vx_isRefq hU'.1) (vx_isRefq hN'.1) hU'.2.word hN'.2.word
  have hown' : s'.vm.findClass own = some m.cls := by rw [hvm]; exact hown
  have hins : (Cond.instantiable cls 6).before args s' = true := h _ (by simp [Bundle.ownAtoms0])
  obtain ⟨vm₁, cX, kX, hfX, hkX, -, -, X₁, st1⟩ := Y.newCold hexec (own := own) (C := cls) (index := ik) (n := 6) hown' hk' hins hini'
    (g := F0 m pc ls rest) rfl (by rw [hb]; exact d0) (Nat.le_refl _) (Nat.le_refl _)
  generalize hT1 : (T.setVm vm₁).pushCell { cls := cX, slots := kX.instanceTypes.map defaultValue, vm := .none } = T1 at X₁ st1
  have hcat : (Value.ref T.heap.size).category = 1 := rfl
  have hcellA : T1.heap[T.heap.size]? = some (freshCell cX kX) := by rw [← hT1]; exact State.heap_pushCell_size _ _
  have d3' : decode c.code (pc + 3) = .ok (.dup, 1) := by rw [hb]; exact d3
  obtain ⟨U, hsteps, hrun, hend, hW, hsame, ce, hce, hO⟩ := X₁.ctorThrow0 hexec htr (own := own) (cls := cls) (names := names) (ic := ic) hown' hcls hnames h (fun x hx => nomatch hx) hfX hkX hcellA (by rw [hhp, hT]; exact Nat.le_refl _)
    (g := { method := m, pc := pc + 4, locals := ls, stack := .ref T.heap.size :: .ref T.heap.size :: rest, locked := none }) rfl hsize rfl rfl (rest := rest) rfl
    (by rw [hb]; exact d4) (by rw [hb]; exact d7) hout hRframes (by simp only [List.map_cons, List.sum_cons, hcat]; omega) hlocks
  obtain ⟨f1, f2⟩ := vx_frame hsame
  rw [hhp] at f1 f2
  have hWs : s.WarmedH U.vm := State.WarmedH.trans hW0 hW
  have hcl : s.vm.findClass cls = some ce.cls := by
    have h9 := hO.cls
    rw [hvm] at h9
    exact h9
  have hall : s.sameButNew ({ U with vm := s.vm } : State) locs mc ms := by
    subst hA
    obtain ⟨e1, e2⟩ := hsame
    rw [State.setFrames_setFrames] at e1
    have h2 : (T.setVm s.vm).sameButNew ({ U with vm := s.vm } : State) [] (0 + 1) (0 + 6) := ⟨e1, e2⟩
    have h3 := X.same.trans h2
    rw [List.append_nil] at h3
    exact h3.mono hc hs
  refine ⟨U, ?_, .threw T.heap.size, hrun, hend, Or.inr ⟨T.heap.size, rfl, cls, ce, locs, hx U hWs.alike f1 (fun q hq => f2 q hq (fun z hz => nomatch hz)), hce, hO.vm, hcl, hWs, hall, hf⟩⟩
  refine st1 _ ?_
  show Steps p.tables e below (T1.setTop { method := m, pc := pc + 3, locals := ls, stack := .ref T.heap.size :: rest, locked := none }) _
  jvm_step X₁.here [X₁.here.top, hexec, d3', Value.category]
  exact hsteps
/-- 'throw new E("text")': new; dup; ldc; invokespecial; athrow -/
theorem vx_throwS {cc : ByteArray} {pc : Nat} (hexec : p.tables.exec = Jvm.exec) (hb : c.code = cc) (hl : l.stackTraces = false) {own cls text : String} {names : List String} {ik is ic mc ms sa : Nat} {A : Nat → Prop}
    (hown : s.vm.findClass own = some m.cls) (hcls : Bundle.fit cls = true) (hnames : ∀ n ∈ names, Bundle.fit n = true)
    (hk : (Cond.classLink own ik cls).before args s = true) (hini : (Cond.initialized cls).before args s = true) (hstr : vk_R own is text sa s) (hat : ∀ w ∈ vx_atS own ic cls names, w.before args s = true)
    (hgood : ∀ w ∈ Cond.classLink own ik cls :: Cond.initialized cls :: vx_atS own ic cls names, vx_ot w = true)
    (hU : vx_Zq Bundle.tN "UNASSIGNED_STACK" Bundle.steD A s s.heap) (hN : vx_Zq Bundle.tN "SUPPRESSED_SENTINEL" Bundle.listD A s s.heap) (hS : va_S A s.heap H locs) (hsize : ls.size = c.maxLocals)
    (d0 : decode cc pc = .ok (.new ik, 3)) (d3 : decode cc (pc + 3) = .ok (.dup, 1)) (d4 : decode cc (pc + 4) = .ok (.ldc is, 2)) (d6 : decode cc (pc + 6) = .ok (.invokespecial ic, 3)) (d9 : decode cc (pc + 9) = .ok (.athrow, 1))
    (hout : ∀ x ∈ c.exceptionTable.toList, covers x (pc + 9) = false)
    (hRframes : names.length + 3 < R.frames) (hRlocals : (rest.map fun v => v.category).sum + (13 * (names.length + 1) + 43) ≤ R.locals) (hRcells : cells + 1 ≤ R.cells) (hRslots : slots + 6 ≤ R.slots) (hlocks : meth.locks = false)
    (hx : ∀ t : State, s.vm.Alike t.vm → H.size ≤ t.heap.size → (∀ q : Nat, q < H.size → t.heap[q]? = H[q]?) → XC cls s t)
    (hf : ∀ z ∈ locs, free z.base) (hc : cells + 1 ≤ mc) (hs : slots + 6 ≤ ms) :
    W p l e R s m args below meth c H locs cells slots (vx_MQ below Qc XC args s mc ms free) (F0 m pc ls rest) := by
  intro T hT X
  have htr : e.platform.stackTraces = false := (show e.platform.stackTraces = l.stackTraces by rw [X.admits.platform]).trans hl
  have Y := vx_rebase X (R' := { frames := R.frames, locals := R.locals, cells := 1, slots := 6 }) (Nat.le_refl _) (Nat.le_refl _) hRcells hRslots
  obtain ⟨s', hA⟩ : ∃ z, z = (T.setVm s.vm).setFrames (.invoking m args :: below) := ⟨_, rfl⟩
  rw [← hA] at Y
  have hvm : s'.vm = s.vm := by rw [hA]; rfl
  have hhp : s'.heap = H := by rw [hA]; exact hT
  have hW0 : s.WarmedH s'.vm := by rw [hvm]; exact State.WarmedH.refl s
  have hat' : ∀ w ∈ vx_atS own ic cls names, w.before args s' = true := fun w hw => vx_ot_at hW0 hvm.symm (hgood w (List.mem_cons_of_mem _ (List.mem_cons_of_mem _ hw))) (hat w hw)
  have hk' : (Cond.classLink own ik cls).before args s' = true := vx_ot_at hW0 hvm.symm (hgood _ List.mem_cons_self) hk
  have hini' : (Cond.initialized cls).before args s' = true := vx_ot_at hW0 hvm.symm (hgood _ (List.mem_cons_of_mem _ List.mem_cons_self)) hini
  have hU' : vx_Zq Bundle.tN "UNASSIGNED_STACK" Bundle.steD A s' s'.heap := by rw [hhp]; exact vx_Zq.moved hW0.alike (hU.kept hS.2.1)
  have hN' : vx_Zq Bundle.tN "SUPPRESSED_SENTINEL" Bundle.listD A s' s'.heap := by rw [hhp]; exact vx_Zq.moved hW0.alike (hN.kept hS.2.1)
  have h : ∀ w ∈ Bundle.ownAtoms own ic cls names, w.before args s' = true := vx_own hat' (vx_isRefq hU'.1) (vx_isRefq hN'.1) hU'.2.word hN'.2.word
  have hown' : s'.vm.findClass own = some m.cls := by rw [hvm]; exact hown
  have hins : (Cond.instantiable cls 6).before args s' = true := h _ (by simp [Bundle.ownAtoms])
  obtain ⟨vm₁, cX, kX, hfX, hkX, -, -, X₁, st1⟩ := Y.newCold hexec (own := own) (C := cls) (index := ik) (n := 6) hown' hk' hins hini'
    (g := F0 m pc ls rest) rfl (by rw [hb]; exact d0) (Nat.le_refl _) (Nat.le_refl _)
  generalize hT1 : (T.setVm vm₁).pushCell { cls := cX, slots := kX.instanceTypes.map defaultValue, vm := .none } = T1 at X₁ st1
  have hcat : (Value.ref T.heap.size).category = 1 := rfl
  have hcellA : T1.heap[T.heap.size]? = some (freshCell cX kX) := by rw [← hT1]; exact State.heap_pushCell_size _ _
  have d3' : decode c.code (pc + 3) = .ok (.dup, 1) := by rw [hb]; exact d3
  have d4' : decode c.code (pc + 4) = .ok (.ldc is, 2) := by rw [hb]; exact d4
  have hstr' : vk_R own is text sa s' := vk_R.warm hW0 hstr
  obtain ⟨U, hsteps, hrun, hend, hW, hsame, ce, hce, hO⟩ := X₁.ctorThrowS hexec htr (own := own) (cls := cls) (names := names) (ic := ic) hown' hcls hnames h (fun x hx => nomatch hx) hfX hkX hcellA (by rw [hhp, hT]; exact Nat.le_refl _) (msg := .ref sa) rfl
    (g := { method := m, pc := pc + 6, locals := ls, stack := .ref sa :: .ref T.heap.size :: .ref T.heap.size :: rest, locked := none }) rfl hsize rfl rfl (rest := rest) rfl
    (by rw [hb]; exact d6) (by rw [hb]; exact d9) hout hRframes (by simp only [List.map_cons, List.sum_cons, hcat]; omega) hlocks
  obtain ⟨f1, f2⟩ := vx_frame hsame
  rw [hhp] at f1 f2
  have hWs : s.WarmedH U.vm := State.WarmedH.trans hW0 hW
  have hcl : s.vm.findClass cls = some ce.cls := by
    have h9 := hO.cls
    rw [hvm] at h9
    exact h9
  have hall : s.sameButNew ({ U with vm := s.vm } : State) locs mc ms := by
    subst hA
    obtain ⟨e1, e2⟩ := hsame
    rw [State.setFrames_setFrames] at e1
    have h2 : (T.setVm s.vm).sameButNew ({ U with vm := s.vm } : State) [] (0 + 1) (0 + 6) := ⟨e1, e2⟩
    have h3 := X.same.trans h2
    rw [List.append_nil] at h3
    exact h3.mono hc hs
  refine ⟨U, ?_, .threw T.heap.size, hrun, hend, Or.inr ⟨T.heap.size, rfl, cls, ce, locs, hx U hWs.alike f1 (fun q hq => f2 q hq (fun z hz => nomatch hz)), hce, hO.vm, hcl, hWs, hall, hf⟩⟩
  refine st1 _ ?_
  show Steps p.tables e below (T1.setTop { method := m, pc := pc + 3, locals := ls, stack := .ref T.heap.size :: rest, locked := none }) _
  jvm_step X₁.here [X₁.here.top, hexec, d3', Value.category]
  exact X₁.ldcString hexec (own := own) (text := text) (index := is) (a := sa) hown' hstr'.1 hstr'.2
    (g := { method := m, pc := pc + 4, locals := ls, stack := .ref T.heap.size :: .ref T.heap.size :: rest, locked := none }) rfl d4' _ hsteps
/-- 'throw new E("text")', the text by a wide index -/
theorem vx_throwSW {cc : ByteArray} {pc : Nat} (hexec : p.tables.exec = Jvm.exec) (hb : c.code = cc) (hl : l.stackTraces = false) {own cls text : String} {names : List String} {ik is ic mc ms sa : Nat} {A : Nat → Prop}
    (hown : s.vm.findClass own = some m.cls) (hcls : Bundle.fit cls = true) (hnames : ∀ n ∈ names, Bundle.fit n = true)
    (hk : (Cond.classLink own ik cls).before args s = true) (hini : (Cond.initialized cls).before args s = true) (hstr : vk_R own is text sa s) (hat : ∀ w ∈ vx_atS own ic cls names, w.before args s = true)
    (hgood : ∀ w ∈ Cond.classLink own ik cls :: Cond.initialized cls :: vx_atS own ic cls names, vx_ot w = true)
    (hU : vx_Zq Bundle.tN "UNASSIGNED_STACK" Bundle.steD A s s.heap) (hN : vx_Zq Bundle.tN "SUPPRESSED_SENTINEL" Bundle.listD A s s.heap) (hS : va_S A s.heap H locs) (hsize : ls.size = c.maxLocals)
    (d0 : decode cc pc = .ok (.new ik, 3)) (d3 : decode cc (pc + 3) = .ok (.dup, 1)) (d4 : decode cc (pc + 4) = .ok (.ldc_w is, 3)) (d7 : decode cc (pc + 7) = .ok (.invokespecial ic, 3)) (d10 : decode cc (pc + 10) = .ok (.athrow, 1))
    (hout : ∀ x ∈ c.exceptionTable.toList, covers x (pc + 10) = false)
    (hRframes : names.length + 3 < R.frames) (hRlocals : (rest.map fun v => v.category).sum + (13 * (names.length + 1) + 43) ≤ R.locals) (hRcells : cells + 1 ≤ R.cells) (hRslots : slots + 6 ≤ R.slots) (hlocks : meth.locks = false)
    (hx : ∀ t : State, s.vm.Alike t.vm → H.size ≤ t.heap.size → (∀ q : Nat, q < H.size → t.heap[q]? = H[q]?) → XC cls s t)
    (hf : ∀ z ∈ locs, free z.base) (hc : cells + 1 ≤ mc) (hs : slots + 6 ≤ ms) :
    W p l e R s m args below meth c H locs cells slots (vx_MQ below Qc XC args s mc ms free) (F0 m pc ls rest) := by
  intro T hT X
  have htr : e.platform.stackTraces = false := (show e.platform.stackTraces = l.stackTraces by rw [X.admits.platform]).trans hl
  have Y := vx_rebase X (R' := { frames := R.frames, locals := R.locals, cells := 1, slots := 6 }) (Nat.le_refl _) (Nat.le_refl _) hRcells hRslots
  obtain ⟨s', hA⟩ : ∃ z, z = (T.setVm s.vm).setFrames (.invoking m args :: below) := ⟨_, rfl⟩
  rw [← hA] at Y
  have hvm : s'.vm = s.vm := by rw [hA]; rfl
  have hhp : s'.heap = H := by rw [hA]; exact hT
  have hW0 : s.WarmedH s'.vm := by rw [hvm]; exact State.WarmedH.refl s
  have hat' : ∀ w ∈ vx_atS own ic cls names, w.before args s' = true := fun w hw => vx_ot_at hW0 hvm.symm (hgood w (List.mem_cons_of_mem _ (List.mem_cons_of_mem _ hw))) (hat w hw)
  have hk' : (Cond.classLink own ik cls).before args s' = true := vx_ot_at hW0 hvm.symm (hgood _ List.mem_cons_self) hk
  have hini' : (Cond.initialized cls).before args s' = true := vx_ot_at hW0 hvm.symm (hgood _ (List.mem_cons_of_mem _ List.mem_cons_self)) hini
  have hU' : vx_Zq Bundle.tN "UNASSIGNED_STACK" Bundle.steD A s' s'.heap := by rw [hhp]; exact vx_Zq.moved hW0.alike (hU.kept hS.2.1)
  have hN' : vx_Zq Bundle.tN "SUPPRESSED_SENTINEL" Bundle.listD A s' s'.heap := by rw [hhp]; exact vx_Zq.moved hW0.alike (hN.kept hS.2.1)
  have h : ∀ w ∈ Bundle.ownAtoms own ic cls names, w.before args s' = true := vx_own hat' (vx_isRefq hU'.1) (vx_isRefq hN'.1) hU'.2.word hN'.2.word
  have hown' : s'.vm.findClass own = some m.cls := by rw [hvm]; exact hown
  have hins : (Cond.instantiable cls 6).before args s' = true := h _ (by simp [Bundle.ownAtoms])
  obtain ⟨vm₁, cX, kX, hfX, hkX, -, -, X₁, st1⟩ := Y.newCold hexec (own := own) (C := cls) (index := ik) (n := 6) hown' hk' hins hini'
    (g := F0 m pc ls rest) rfl (by rw [hb]; exact d0) (Nat.le_refl _) (Nat.le_refl _)
  generalize hT1 : (T.setVm vm₁).pushCell { cls := cX, slots := kX.instanceTypes.map defaultValue, vm := .none } = T1 at X₁ st1
  have hcat : (Value.ref T.heap.size).category = 1 := rfl
  have hcellA : T1.heap[T.heap.size]? = some (freshCell cX kX) := by rw [← hT1]; exact State.heap_pushCell_size _ _
  have d3' : decode c.code (pc + 3) = .ok (.dup, 1) := by rw [hb]; exact d3
  have d4' : decode c.code (pc + 4) = .ok (.ldc_w is, 3) := by rw [hb]; exact d4
  have hstr' : vk_R own is text sa s' := vk_R.warm hW0 hstr
  obtain ⟨U, hsteps, hrun, hend, hW, hsame, ce, hce, hO⟩ := X₁.ctorThrowS hexec htr (own := own) (cls := cls) (names := names) (ic := ic) hown' hcls hnames h (fun x hx => nomatch hx) hfX hkX hcellA (by rw [hhp, hT]; exact Nat.le_refl _) (msg := .ref sa) rfl
    (g := { method := m, pc := pc + 7, locals := ls, stack := .ref sa :: .ref T.heap.size :: .ref T.heap.size :: rest, locked := none }) rfl hsize rfl rfl (rest := rest) rfl
    (by rw [hb]; exact d7) (by rw [hb]; exact d10) hout hRframes (by simp only [List.map_cons, List.sum_cons, hcat]; omega) hlocks
  obtain ⟨f1, f2⟩ := vx_frame hsame
  rw [hhp] at f1 f2
  have hWs : s.WarmedH U.vm := State.WarmedH.trans hW0 hW
  have hcl : s.vm.findClass cls = some ce.cls := by
    have h9 := hO.cls
    rw [hvm] at h9
    exact h9
  have hall : s.sameButNew ({ U with vm := s.vm } : State) locs mc ms := by
    subst hA
    obtain ⟨e1, e2⟩ := hsame
    rw [State.setFrames_setFrames] at e1
    have h2 : (T.setVm s.vm).sameButNew ({ U with vm := s.vm } : State) [] (0 + 1) (0 + 6) := ⟨e1, e2⟩
    have h3 := X.same.trans h2
    rw [List.append_nil] at h3
    exact h3.mono hc hs
  refine ⟨U, ?_, .threw T.heap.size, hrun, hend, Or.inr ⟨T.heap.size, rfl, cls, ce, locs, hx U hWs.alike f1 (fun q hq => f2 q hq (fun z hz => nomatch hz)), hce, hO.vm, hcl, hWs, hall, hf⟩⟩
  refine st1 _ ?_
  show Steps p.tables e below (T1.setTop { method := m, pc := pc + 3, locals := ls, stack := .ref T.heap.size :: rest, locked := none }) _
  jvm_step X₁.here [X₁.here.top, hexec, d3', Value.category]
  exact X₁.ldcStringW hexec (own := own) (text := text) (index := is) (a := sa) hown' hstr'.1 hstr'.2
    (g := { method := m, pc := pc + 4, locals := ls, stack := .ref T.heap.size :: .ref T.heap.size :: rest, locked := none }) rfl d4' _ hsteps
end Ends
section Bodies
variable {l : Launch}
theorem vx_ofW {y : MethodName} {ws ws' : List Cond} {rm : Room} {Pc : Array Value → State → Prop} {Qc : Array Value → State → Outcome → State → Prop} {XC : String → State → State → Prop} {mc ms : Nat} {free : Addr → Prop} {cc : ByteArray} {maxL : Nat} {ret : Option FieldType}
    (hy : plainName y.cls = true) (hw : ws = Cond.code y cc maxL ret :: ws')
    (body : ∀ p e s m args below meth c s₁, BodyLoose p l y (headSpec ws rm) cc maxL ret e s m args below meth c s₁ → c.maxLocals = maxL → (∀ x ∈ c.exceptionTable.toList, False) → Pc args s →
      W p l e (headSpec ws rm).room s m args below meth c s.heap [] 0 0 (vx_MQ below Qc XC args s mc ms free) (entryFrame m args maxL)) : vx_Met l y ws rm Pc Qc XC mc ms free := by
  refine MetFree.of_bodyS (code := cc) (maxLocals := maxL) (ret := ret) hy ?_ ?_
  · intro args s m h hn
    obtain ⟨meth, c, h1, h2, h3, h4, h5, h6, -, -⟩ := Cond.code_spec hn (atoms_spec (ws := ws) h _ (by rw [hw]; exact List.mem_cons_self))
    exact ⟨meth, c, h1, h2, h3, h4, h5, h6⟩
  · intro p e s m args below meth c s₁ B hml hP _
    have hh0 : s₁.heap = s.heap := by rw [B.state]; rfl
    have ht : ∀ x ∈ c.exceptionTable.toList, False := by
      obtain ⟨meth9, c9, h1, h2, -, -, -, -, h7, -⟩ := Cond.code_spec B.named (atoms_spec (ws := ws) B.pre _ (by rw [hw]; exact List.mem_cons_self))
      cases Option.some.inj (h1.symm.trans B.method)
      cases Option.some.inj (h2.symm.trans (Stand.of_body B).code)
      intro x hx
      rw [Array.isEmpty_iff.mp h7] at hx
      cases hx
    obtain ⟨t, a1, o, b1, b2, b3⟩ := body p e s m args below meth c s₁ B hml ht hP s₁ hh0 (Stand.of_body B)
    exact ⟨t, o, a1, b1, b2, b3⟩
/-- the table of a body with handlers -/
theorem vx_table {p : Program} {x y : MethodName} {S : Spec} {cc bytes : ByteArray} {maxL maxL' : Nat} {ret ret' : Option FieldType} {e : Env} {s s₁ : State} {m : MethodId} {args : Array Value} {below : List Frame} {meth : Method} {c : Code} {hh : List (Nat × Nat × Nat × Nat)}
    (B : BodyLoose p l y S cc maxL ret e s m args below meth c s₁) (h : (Cond.codeWith y bytes maxL' ret' hh).before args s = true) : c.exceptionTable.toList = tableOf hh := by
  obtain ⟨m9, meth9, c9, hn9, h1, h2, -, -, h6, -⟩ := Cond.codeWith_spec h
  cases Option.some.inj (hn9.symm.trans B.named)
  cases Option.some.inj (h1.symm.trans B.method)
  cases Option.some.inj (h2.symm.trans (Stand.of_body B).code)
  rw [← h6, table_eq]
end Bodies
end VXA
/-! ===== END ===== -/
/-! ===== BEGIN a static call of a method with an exception table ===== -/
section VXS
variable {p : Program} {l : Launch} {e : Env} {R : Room} {s : State} {m : MethodId} {args : Array Value} {below : List Frame} {meth : Method} {c : Code} {T : State} {H : Heap} {locs : List Loc} {cells slots : Nat}
abbrev vx_CSW (R : Room) (s : State) (args : Array Value) (own : String) (index : Nat) (y : MethodName) (bytes : ByteArray) (maxL : Nat) (ret : Option FieldType) (hh : List (Nat × Nat × Nat × Nat)) (ws : List Cond) (rm : Room) (mc ms n : Nat) : Prop :=
  (rm.cells = mc ∧ rm.slots = ms ∧ rm.frames + 1 ≤ R.frames ∧ 8 + (maxL + 11) + rm.locals ≤ R.locals ∧ (∀ w ∈ ws, ∀ (a' : Array Value) (U : State), s.WarmedH U.vm → w.before a' U = true) ∧ Cond.codeWith y bytes maxL ret hh ∈ ws) ∧
  (Cond.codeWith y bytes maxL ret hh).before args s = true ∧ (Cond.initialized y.cls).before args s = true ∧ (y.cls ≠ "java/lang/invoke/MethodHandle" ∧ y.cls ≠ "java/lang/invoke/VarHandle") ∧
  (∀ sig, parseMethodDescriptor y.desc = some sig → n = sig.parameters.length) ∧ (Cond.methodLink own index y).before args s = true ∧ (Cond.static y).before args s = true
theorem vx_cwSW {own : String} {index maxL mc ms : Nat} {y : MethodName} {bytes : ByteArray} {ret : Option FieldType} {hh : List (Nat × Nat × Nat × Nat)} {Ts ws ws' : List Cond} {rm : Room} (n : Nat) (ht : ∀ w ∈ Ts, w.before args s = true) (hT : GoodIn Ts (va_wsS own index y ws)) (hw : ws = Cond.codeWith y bytes maxL ret hh :: ws') (hrc : rm.cells = mc) (hrs : rm.slots = ms)
    (hd : y.cls ≠ "java/lang/invoke/MethodHandle" ∧ y.cls ≠ "java/lang/invoke/VarHandle" ∧ (parseMethodDescriptor y.desc).map (fun d => d.parameters.length) = some n) (hR : rm.frames + 1 ≤ R.frames ∧ 8 + (maxL + 11) + rm.locals ≤ R.locals) :
    vx_CSW R s args own index y bytes maxL ret hh ws rm mc ms n := by
  have ok : ∀ w ∈ va_wsS own index y ws, w.before args s = true := fun w h => ht w (hT w h).1
  have hG : GoodIn Ts ws := fun w h => hT w (by unfold va_wsS; exact List.mem_append_right _ h)
  have hc : Cond.codeWith y bytes maxL ret hh ∈ ws := by rw [hw]; exact List.mem_cons_self
  refine ⟨⟨hrc, hrs, hR.1, hR.2, pay_in ht hG, hc⟩, ht _ (hG _ hc).1, ok _ (by simp [va_wsS]), ⟨hd.1, hd.2.1⟩, fun sig h => ?_, ok _ (by simp [va_wsS]), ok _ (by simp [va_wsS])⟩
  have h2 := hd.2.2
  rw [h] at h2
  exact (Option.some.inj h2).symm
theorem vx_callSW (X : Stand p l e R s m args below meth c T locs cells slots) (hexec : p.tables.exec = Jvm.exec) {own : String} {index : Nat} {y : MethodName} {bytes : ByteArray} {maxL : Nat} {ret : Option FieldType} {hh : List (Nat × Nat × Nat × Nat)}
    (hown : s.vm.findClass own = some m.cls) (hlink : (Cond.methodLink own index y).before args s = true) (hstat : (Cond.static y).before args s = true) (hinit : (Cond.initialized y.cls).before args s = true)
    (hcode : (Cond.codeWith y bytes maxL ret hh).before args s = true) (hy : y.cls ≠ "java/lang/invoke/MethodHandle" ∧ y.cls ≠ "java/lang/invoke/VarHandle")
    {W9 : Nat} {Pre : Pt → Array Value → Prop} {Post : Pt → Array Value → Option Value → Pt → Prop} (hK : Back l R p e below s args y 3 W9 Pre Post)
    {g : JFrame} (hg : g.method = m) (hsize : g.locals.size = c.maxLocals) {argsL rest : List Value} (hlen : ∀ sig, parseMethodDescriptor y.desc = some sig → argsL.length = sig.parameters.length)
    (hstack : g.stack = argsL.reverse ++ rest) (hW : 2 * g.monitorRoom + (rest.map fun v => v.category).sum ≤ W9) (hdg : decode c.code g.pc = .ok (.invokestatic index, 3))
    (hpre : ∀ vm₁, s.WarmedH vm₁ → Pre ⟨T.setVm vm₁, locs, cells, slots⟩ argsL.toArray) :
    ∃ (v : Option Value) (vm₁ : Vm) (B : Pt), s.WarmedH vm₁ ∧ Stand p l e R s m args below meth c B.U B.locs B.cells B.slots ∧ Post ⟨T.setVm vm₁, locs, cells, slots⟩ argsL.toArray v B ∧
      ∀ target, Steps p.tables e below (B.U.setTop { g with pc := g.pc + 3, stack := v.toList ++ rest }) target → Steps p.tables e below (T.setTop g) target := by
  obtain ⟨mk, methM, cM, hnamed, hmethM, -, -, -, -, -, -, hsigM⟩ := Cond.codeWith_spec hcode
  have hstatic : methM.isStatic = true := Cond.static_spec hnamed hmethM hstat
  obtain ⟨kP, hkP, -⟩ := className_of_methodNamed hnamed
  have hinitP : kP.init = .initialized := Cond.initialized_spec (findClass_of_methodNamed hnamed) hkP hinit
  obtain ⟨vm₁, X₁, hstep₁⟩ := X.invokestatic hexec hown hlink hnamed hmethM hstatic hkP hinitP hy (g := g) hg (argsL := argsL) (rest := rest) (hlen _ hsigM) hstack hdg
  obtain ⟨v, B, X', hpost, hsteps⟩ := hK m meth c ⟨T.setVm vm₁, locs, cells, slots⟩ { g with stack := rest } (.invokestatic index) mk argsL.toArray X₁ hg hsize hdg hW (X₁.named hnamed) (hpre vm₁ X₁.warmed)
  exact ⟨v, vm₁, B, X₁.warmed, X', hpost, fun target h => hstep₁ _ fun acts => by rw [doInvoke_state]; exact hsteps.trans h⟩
theorem vx_runSW {y : MethodName} {bytes cc : ByteArray} {maxL nL mc ms n index : Nat} {ret : Option FieldType} {hh : List (Nat × Nat × Nat × Nat)} {ws : List Cond} {rm : Room} {Pc : Array Value → State → Prop} {Qc : Array Value → State → Outcome → State → Prop} {free : Addr → Prop} {Ts : List Cond} {own : String} {As rest : List Value} {g : JFrame}
    (S : CallFix p m c cc nL s args Ts own) (hM : Met l y ws rm Pc Qc mc ms free) (cw : vx_CSW R s args own index y bytes maxL ret hh ws rm mc ms n) (hp : PreS s H Pc As)
    (hg : g.method = m) (hn : As.length = n) (hsize : g.locals.size = nL) (hstack : g.stack = As.reverse ++ rest) (hW : 2 * g.monitorRoom + (rest.map fun v => v.category).sum ≤ 8) (hdg : decode cc g.pc = .ok (.invokestatic index, 3)) (hf : cells + mc ≤ R.cells ∧ slots + ms ≤ R.slots) :
    va_Run p l e R s m args below meth c H locs cells slots mc ms g rest (Qc As.toArray) (free) := by
  obtain ⟨⟨hrc, hrs, hfr, hlo, hws, hcw⟩, hcode, hini, hy, hlen, hl, hstt⟩ := cw
  have hK : Back l R p e below s args y 3 8 (PreOf R mc ms Pc) (PostOf Qc mc ms free) := va_backW (hh := hh) (bytes := bytes) (maxL := maxL) (ret := ret) hM hp.1 hrc hrs hfr hlo hws hcw (fun a' U hW => word_at hW (Or.inl (by first | rfl | simp [Cond.onTables, Cond.keeps, Cond.steady])) hini)
  obtain ⟨hx, hb, hml, ho, -⟩ := S
  intro T hT X
  obtain ⟨v, vm₁, ⟨U', l2, c2, s2⟩, hW₁, X', ⟨g', mk, t, L, e1, e2, hq, h1, hL, h2, h3⟩, st⟩ := vx_callSW X hx (hh := hh) (bytes := bytes) (maxL := maxL) (ret := ret) ho hl hstt hini hcode hy hK hg (hsize.trans hml.symm) (argsL := As) (rest := rest) (fun sig h => hn.trans (hlen sig h)) hstack hW (by rw [hb]; exact hdg)
    (fun vm₁ hW₁ => ⟨hf.1, hf.2, hp.2 (T.setVm vm₁) hT hW₁⟩)
  dsimp only [Pt.U, Pt.locs, Pt.cells, Pt.slots] at X' e1 e2 h1 h2 h3 st
  subst h1; subst h2; subst h3
  exact ⟨v, (T.setVm vm₁).calling g' mk As.toArray, t, U', L, hT, X', hL, e1, e2, hq, st⟩
/-- a thing of a world lies in the heap -/
theorem vx_lt {D : va_G} {cl : List vw_C} {ws : va_W} {H1 : Heap} (h : va_P D cl ws H1) {k : Nat} {q : Nat × va_E} (hk : ws[k]? = some q) : q.1 < H1.size := (h k q hk).lt
end VXS
/-! ===== END ===== -/
/-! ===== BEGIN methods with a table of their own: called by a name, returning or throwing ===== -/
section VXH
/-! vx_backW, vx_callVX, vx_callSX, vx_callVW, vx_runVW, vx_runVX, vx_runSX, vx_ofWH follow the same proofs as their sisters above (Free/Laws.lean, Shelf42/LK1.lean); vx_outP calls Shelf42/NT130.lean (outThrough). -/
section
variable {l : Launch} {R : Room} {p : Program} {e : Env} {below : List Frame} {s : State} {sargs : Array Value} {y : MethodName} {len W9 : Nat}
theorem vx_backW {ws : List Cond} {rm : Room} {Pc : Array Value → State → Prop} {Qc : Array Value → State → Outcome → State → Prop} {XC : String → State → State → Prop} {mc ms : Nat} {free : Addr → Prop} {bytes : ByteArray} {maxL : Nat} {ret : Option FieldType} {hh : List (Nat × Nat × Nat × Nat)}
    (hM : vx_Met l y ws rm Pc Qc XC mc ms free) (hblind : FrameBlind Pc) (hrc : rm.cells = mc) (hrs : rm.slots = ms)
    (hframes : rm.frames + 1 ≤ R.frames) (hlocals : W9 + (maxL + 11) + rm.locals ≤ R.locals)
    (hws : ∀ w ∈ ws, ∀ a' U, s.WarmedH U.vm → w.before a' U = true) (hcode : Cond.codeWith y bytes maxL ret hh ∈ ws) (hinit : ∀ a' U, s.WarmedH U.vm → (Cond.initialized y.cls).before a' U = true) :
    vx_Back l R p e below s sargs y len W9 (PreOf R mc ms Pc) (PostOf Qc mc ms free) (vx_Post XC mc ms free) := by
  intro m meth c A g ig mk a X hg hsize hdg hW hn hp
  have h1 : (headSpec ws rm).pre.before a A.U = true := atoms_intro fun w hw => hws w hw _ _ X.warmed
  have h2 : (Cond.codeWith y bytes maxL ret hh).before a A.U = true := hws _ hcode _ _ X.warmed
  have h3 : (Cond.initialized y.cls).before a A.U = true := hinit _ _ X.warmed
  have h4 : A.cells + (headSpec ws rm).room.cells ≤ R.cells := by rw [show (headSpec ws rm).room.cells = mc from hrc]; exact hp.1
  have h5 : A.slots + (headSpec ws rm).room.slots ≤ R.slots := by rw [show (headSpec ws rm).room.slots = ms from hrs]; exact hp.2.1
  have hPc : Pc a (A.U.calling g mk a) := hblind _ _ _ _ hp.2.2
  obtain ⟨U, Ls, c0, s0⟩ := A
  dsimp only [Pt.U, Pt.locs, Pt.cells, Pt.slots] at h1 h2 h3 h4 h5 X hn hPc ⊢
  obtain ⟨m9, methY, cY, hn9, hmY, hcY, -, hlY, -⟩ := Cond.codeWith_spec h2
  cases Option.some.inj (hn9.symm.trans hn)
  obtain ⟨kY, hkY, -⟩ := className_of_methodNamed hn
  have hinitY : kY.init = .initialized := Cond.initialized_spec (findClass_of_methodNamed hn) hkY h3
  have h : At U g.method c below := by rw [hg]; exact X.here
  have hlocals9 : W9 + (maxL + 11) + (headSpec ws rm).room.locals ≤ R.locals := hlocals
  have happ : (headSpec ws rm).appliesLoose y e.platform (U.calling g mk a) = true :=
    Spec.appliesLoose_calling (g := g) h hdg hn hkY hinitY
      (X.room_calling (g := g) (R' := (headSpec ws rm).room) hsize hmY hcY hframes (by rw [hlY]; omega) h4 h5) h1
  obtain ⟨mid, hmid⟩ := h.above
  have hfr : (U.setTop g).frames = (.java g :: mid) ++ below := by rw [State.frames_setTop' g h.top, hmid]; rfl
  obtain ⟨o, s₂, hsteps, -, hend, hq⟩ := Steps.callFree hM p X.admits X.cas X.clock (acts := []) hfr happ hPc trivial
  have hq' : vx_Q Qc XC mc ms free a (U.calling g mk a) o s₂ := hq
  rw [State.frames_setTop' g h.top] at hend
  obtain ⟨g₀, hg0⟩ := Option.isSome_iff_exists.mp h.top
  obtain ⟨r, hr⟩ := State.topJava?_eq_some.mp hg0
  have hr' : (({ U with heap := s₂.heap, slotsUsed := s₂.slotsUsed } : State).setVm s₂.vm).frames = .java g₀ :: r := hr
  rcases hq' with ⟨hqc, L, hfe, hL⟩ | ⟨q, rfl, E, ce, L, hx, hce, hcv, hcl, hW₂, hsm, hL⟩
  · obtain ⟨⟨v, rfl⟩, hW₂, e2, q2, q3, q4, q5, q6⟩ := id hfe
    have e3 : s₂ = ({ (U.calling g mk a).setFrames s₂.frames with heap := s₂.heap, slotsUsed := s₂.slotsUsed } : State).setVm s₂.vm := by
      have : s₂ = ({ s₂ with vm := (U.calling g mk a).vm } : State).setVm s₂.vm := rfl
      rw [e2] at this
      exact this
    obtain ⟨c₂, i₂, len₂, hc₂, hd₂, hf₂⟩ := hend
    have hW' : U.WarmedH s₂.vm := hW₂
    have hcc : c₂ = c := by
      have h1 : s₂.code? g.method = U.code? g.method := by
        rw [State.code?_eq, State.code?_eq, hW'.alike.method?]
      exact Option.some.inj (hc₂.symm.trans (h1.trans h.code))
    subst hcc
    have hlen : len₂ = len := by rw [hdg] at hd₂; cases hd₂; rfl
    subst hlen
    have hs₂ : s₂ = (({ U with heap := s₂.heap, slotsUsed := s₂.slotsUsed } : State).setVm s₂.vm).setTop { g with pc := g.pc + len₂, stack := v.toList ++ g.stack } := by
      refine e3.trans ?_
      rw [hf₂, State.calling_eq h.top, State.setFrames_setFrames, State.setTop_of_frames _ hr', hr]
      rfl
    have hsame : U.sameButNew ({ U with heap := s₂.heap, slotsUsed := s₂.slotsUsed } : State) L mc ms := by
      refine ⟨?_, q2, q3, q4, q5, q6⟩
      obtain ⟨t, ht, -⟩ := State.frames_cons hr
      show ({ U with heap := s₂.heap, slotsUsed := s₂.slotsUsed } : State) = { U.setFrames U.frames with heap := s₂.heap, slotsUsed := s₂.slotsUsed }
      rw [State.setFrames_self ht]
    subst hg
    refine Or.inl ⟨v, ⟨(({ U with heap := s₂.heap, slotsUsed := s₂.slotsUsed } : State).setVm s₂.vm), Ls ++ L, c0 + mc, s0 + ms⟩,
      ⟨X.admits, X.cas, X.clock, X.frames, X.room, X.hears, X.method, X.code, (X.here.setHeapUsed s₂.heap s₂.slotsUsed).setVm hW'.alike, X.tail, State.WarmedH.trans X.warmed hW', X.limits, X.bytes, X.same.trans (hsame.setVm s.vm)⟩,
      ⟨g, mk, s₂, L, rfl, rfl, hqc, rfl, hL, rfl, rfl⟩, ?_⟩
    show Steps p.tables e below _ ((({ U with heap := s₂.heap, slotsUsed := s₂.slotsUsed } : State).setVm s₂.vm).setTop { g with pc := g.pc + len₂, stack := v.toList ++ g.stack })
    rw [← hs₂]
    exact hsteps
  · obtain ⟨e2, q2, q3, q4, q5, q6⟩ := id hsm
    have e3 : s₂ = ({ (U.calling g mk a).setFrames s₂.frames with heap := s₂.heap, slotsUsed := s₂.slotsUsed } : State).setVm s₂.vm := by
      have : s₂ = ({ s₂ with vm := (U.calling g mk a).vm } : State).setVm s₂.vm := rfl
      rw [e2] at this
      exact this
    have hf₂ : s₂.frames = .throwing q :: .java g :: U.frames.tail := hend
    have hW' : U.WarmedH s₂.vm := hW₂
    have hs₂ : s₂ = ((({ U with heap := s₂.heap, slotsUsed := s₂.slotsUsed } : State).setVm s₂.vm).setTop g).pushFrame (.throwing q) := by
      refine e3.trans ?_
      rw [hf₂, State.calling_eq h.top, State.setFrames_setFrames, State.pushFrame, State.frames_setTop _ hr', State.setTop_of_frames _ hr', State.setFrames_setFrames, hr]
      rfl
    have hsame : U.sameButNew ({ U with heap := s₂.heap, slotsUsed := s₂.slotsUsed } : State) L mc ms := by
      refine ⟨?_, q2, q3, q4, q5, q6⟩
      obtain ⟨t, ht, -⟩ := State.frames_cons hr
      show ({ U with heap := s₂.heap, slotsUsed := s₂.slotsUsed } : State) = { U.setFrames U.frames with heap := s₂.heap, slotsUsed := s₂.slotsUsed }
      rw [State.setFrames_self ht]
    subst hg
    refine Or.inr ⟨q, ⟨(({ U with heap := s₂.heap, slotsUsed := s₂.slotsUsed } : State).setVm s₂.vm), Ls ++ L, c0 + mc, s0 + ms⟩,
      ⟨X.admits, X.cas, X.clock, X.frames, X.room, X.hears, X.method, X.code, (X.here.setHeapUsed s₂.heap s₂.slotsUsed).setVm hW'.alike, X.tail, State.WarmedH.trans X.warmed hW', X.limits, X.bytes, X.same.trans (hsame.setVm s.vm)⟩,
      ⟨g, mk, s₂, L, E, ce, rfl, rfl, hx, hce, hcv, hcl, rfl, hL, rfl, rfl⟩, ?_⟩
    show Steps p.tables e below _ (((({ U with heap := s₂.heap, slotsUsed := s₂.slotsUsed } : State).setVm s₂.vm).setTop g).pushFrame (.throwing q))
    rw [← hs₂]
    exact hsteps
end
variable {p : Program} {l : Launch} {e : Env} {R : Room} {s : State} {m : MethodId} {args : Array Value} {below : List Frame} {meth : Method} {c : Code} {T : State} {H : Heap} {locs : List Loc} {cells slots : Nat}
theorem vx_callVX (X : Stand p l e R s m args below meth c T locs cells slots) (hexec : p.tables.exec = Jvm.exec) {own C : String} {index : Nat} {y : MethodName} {bytes : ByteArray} {maxL : Nat} {ret : Option FieldType} {hh : List (Nat × Nat × Nat × Nat)}
    (hown : s.vm.findClass own = some m.cls) (hlink : (Cond.methodLink own index y).before args s = true) (hinst : (Cond.instanceMethod y).before args s = true) (hsel : (Cond.selects C y y).before args s = true)
    (hcode : (Cond.codeWith y bytes maxL ret hh).before args s = true) (hy : y.cls ≠ "java/lang/invoke/MethodHandle" ∧ y.cls ≠ "java/lang/invoke/VarHandle")
    {W9 : Nat} {Pre : Pt → Array Value → Prop} {Post : Pt → Array Value → Option Value → Pt → Prop} {PostX : Pt → Array Value → Addr → Pt → Prop} (hK : vx_Back l R p e below s args y 3 W9 Pre Post PostX)
    {b : Addr} {cellB : Cell} (hcell : T.heap[b]? = some cellB) (hobj : cellB.vm.isStatics = false) (hcls : s.vm.findClass C = some cellB.cls)
    {g : JFrame} (hg : g.method = m) (hsize : g.locals.size = c.maxLocals) {argsL rest : List Value} (hlen : ∀ sig, parseMethodDescriptor y.desc = some sig → argsL.length = sig.parameters.length)
    (hstack : g.stack = argsL.reverse ++ .ref b :: rest) (hW : 2 * g.monitorRoom + (rest.map fun v => v.category).sum ≤ W9) (hdg : decode c.code g.pc = .ok (.invokevirtual index, 3))
    (hpre : ∀ vm₁, s.WarmedH vm₁ → Pre ⟨T.setVm vm₁, locs, cells, slots⟩ (Value.ref b :: argsL).toArray) :
    (∃ (v : Option Value) (vm₁ : Vm) (B : Pt), s.WarmedH vm₁ ∧ Stand p l e R s m args below meth c B.U B.locs B.cells B.slots ∧ Post ⟨T.setVm vm₁, locs, cells, slots⟩ (Value.ref b :: argsL).toArray v B ∧
      ∀ target, Steps p.tables e below (B.U.setTop { g with pc := g.pc + 3, stack := v.toList ++ rest }) target → Steps p.tables e below (T.setTop g) target) ∨
    (∃ (q : Addr) (vm₁ : Vm) (B : Pt), s.WarmedH vm₁ ∧ Stand p l e R s m args below meth c B.U B.locs B.cells B.slots ∧ PostX ⟨T.setVm vm₁, locs, cells, slots⟩ (Value.ref b :: argsL).toArray q B ∧
      Steps p.tables e below (T.setTop g) ((B.U.setTop { g with stack := rest }).pushFrame (.throwing q))) := by
  obtain ⟨mk, methM, hnamed, hmethM, hstM, habM⟩ := Cond.instanceMethod_spec hinst
  obtain ⟨m8, methM', cM, hn8, hmethM', -, -, -, -, -, -, hsigM⟩ := Cond.codeWith_spec hcode
  cases Option.some.inj (hn8.symm.trans hnamed)
  cases hmethM.symm.trans hmethM'
  obtain ⟨c2, r2, m2, q1, q2, q3, q4, kP, hkP, hkPi⟩ := Cond.selects_spec hsel
  cases hcls.symm.trans q1
  cases (State.methodFound?_of_named hnamed hy).symm.trans q2
  cases hnamed.symm.trans q3
  have hselP : selectMethod e.platform s.vm cellB.cls mk = .method mk := by rw [Launch.admits_selectMethod X.admits]; exact q4
  obtain ⟨vm₁, X₁, hstep₁⟩ := X.invokevirtual hexec hown hlink hnamed hmethM hstM hkP hkPi hy (a := b) (cell := cellB) hcell
    (fun z h => by rw [h] at hobj; cases hobj) hselP hmethM habM hkP hkPi (g := g) hg (argsL := argsL) (rest := rest) (hlen _ hsigM) hstack hdg
  rcases hK m meth c ⟨T.setVm vm₁, locs, cells, slots⟩ { g with stack := rest } (.invokevirtual index) mk (Value.ref b :: argsL).toArray X₁ hg hsize hdg hW (X₁.named hnamed) (hpre vm₁ X₁.warmed) with ⟨v, B, X', hpost, hsteps⟩ | ⟨q, B, X', hpost, hsteps⟩
  · exact Or.inl ⟨v, vm₁, B, X₁.warmed, X', hpost, fun target h => hstep₁ _ fun acts => by rw [doInvoke_state]; exact hsteps.trans h⟩
  · exact Or.inr ⟨q, vm₁, B, X₁.warmed, X', hpost, hstep₁ _ fun acts => by rw [doInvoke_state]; exact hsteps⟩
theorem vx_callSX (X : Stand p l e R s m args below meth c T locs cells slots) (hexec : p.tables.exec = Jvm.exec) {own : String} {index : Nat} {y : MethodName} {bytes : ByteArray} {maxL : Nat} {ret : Option FieldType} {hh : List (Nat × Nat × Nat × Nat)}
    (hown : s.vm.findClass own = some m.cls) (hlink : (Cond.methodLink own index y).before args s = true) (hstat : (Cond.static y).before args s = true) (hinit : (Cond.initialized y.cls).before args s = true)
    (hcode : (Cond.codeWith y bytes maxL ret hh).before args s = true) (hy : y.cls ≠ "java/lang/invoke/MethodHandle" ∧ y.cls ≠ "java/lang/invoke/VarHandle")
    {W9 : Nat} {Pre : Pt → Array Value → Prop} {Post : Pt → Array Value → Option Value → Pt → Prop} {PostX : Pt → Array Value → Addr → Pt → Prop} (hK : vx_Back l R p e below s args y 3 W9 Pre Post PostX)
    {g : JFrame} (hg : g.method = m) (hsize : g.locals.size = c.maxLocals) {argsL rest : List Value} (hlen : ∀ sig, parseMethodDescriptor y.desc = some sig → argsL.length = sig.parameters.length)
    (hstack : g.stack = argsL.reverse ++ rest) (hW : 2 * g.monitorRoom + (rest.map fun v => v.category).sum ≤ W9) (hdg : decode c.code g.pc = .ok (.invokestatic index, 3))
    (hpre : ∀ vm₁, s.WarmedH vm₁ → Pre ⟨T.setVm vm₁, locs, cells, slots⟩ argsL.toArray) :
    (∃ (v : Option Value) (vm₁ : Vm) (B : Pt), s.WarmedH vm₁ ∧ Stand p l e R s m args below meth c B.U B.locs B.cells B.slots ∧ Post ⟨T.setVm vm₁, locs, cells, slots⟩ argsL.toArray v B ∧
      ∀ target, Steps p.tables e below (B.U.setTop { g with pc := g.pc + 3, stack := v.toList ++ rest }) target → Steps p.tables e below (T.setTop g) target) ∨
    (∃ (q : Addr) (vm₁ : Vm) (B : Pt), s.WarmedH vm₁ ∧ Stand p l e R s m args below meth c B.U B.locs B.cells B.slots ∧ PostX ⟨T.setVm vm₁, locs, cells, slots⟩ argsL.toArray q B ∧
      Steps p.tables e below (T.setTop g) ((B.U.setTop { g with stack := rest }).pushFrame (.throwing q))) := by
  obtain ⟨mk, methM, cM, hnamed, hmethM, -, -, -, -, -, -, hsigM⟩ := Cond.codeWith_spec hcode
  have hstatic : methM.isStatic = true := Cond.static_spec hnamed hmethM hstat
  obtain ⟨kP, hkP, -⟩ := className_of_methodNamed hnamed
  have hinitP : kP.init = .initialized := Cond.initialized_spec (findClass_of_methodNamed hnamed) hkP hinit
  obtain ⟨vm₁, X₁, hstep₁⟩ := X.invokestatic hexec hown hlink hnamed hmethM hstatic hkP hinitP hy (g := g) hg (argsL := argsL) (rest := rest) (hlen _ hsigM) hstack hdg
  rcases hK m meth c ⟨T.setVm vm₁, locs, cells, slots⟩ { g with stack := rest } (.invokestatic index) mk argsL.toArray X₁ hg hsize hdg hW (X₁.named hnamed) (hpre vm₁ X₁.warmed) with ⟨v, B, X', hpost, hsteps⟩ | ⟨q, B, X', hpost, hsteps⟩
  · exact Or.inl ⟨v, vm₁, B, X₁.warmed, X', hpost, fun target h => hstep₁ _ fun acts => by rw [doInvoke_state]; exact hsteps.trans h⟩
  · exact Or.inr ⟨q, vm₁, B, X₁.warmed, X', hpost, hstep₁ _ fun acts => by rw [doInvoke_state]; exact hsteps⟩
theorem vx_callVW (X : Stand p l e R s m args below meth c T locs cells slots) (hexec : p.tables.exec = Jvm.exec) {own C : String} {index : Nat} {y : MethodName} {bytes : ByteArray} {maxL : Nat} {ret : Option FieldType} {hh : List (Nat × Nat × Nat × Nat)}
    (hown : s.vm.findClass own = some m.cls) (hlink : (Cond.methodLink own index y).before args s = true) (hinst : (Cond.instanceMethod y).before args s = true) (hsel : (Cond.selects C y y).before args s = true)
    (hcode : (Cond.codeWith y bytes maxL ret hh).before args s = true) (hy : y.cls ≠ "java/lang/invoke/MethodHandle" ∧ y.cls ≠ "java/lang/invoke/VarHandle")
    {W9 : Nat} {Pre : Pt → Array Value → Prop} {Post : Pt → Array Value → Option Value → Pt → Prop} (hK : Back l R p e below s args y 3 W9 Pre Post)
    {b : Addr} {cellB : Cell} (hcell : T.heap[b]? = some cellB) (hobj : cellB.vm.isStatics = false) (hcls : s.vm.findClass C = some cellB.cls)
    {g : JFrame} (hg : g.method = m) (hsize : g.locals.size = c.maxLocals) {argsL rest : List Value} (hlen : ∀ sig, parseMethodDescriptor y.desc = some sig → argsL.length = sig.parameters.length)
    (hstack : g.stack = argsL.reverse ++ .ref b :: rest) (hW : 2 * g.monitorRoom + (rest.map fun v => v.category).sum ≤ W9) (hdg : decode c.code g.pc = .ok (.invokevirtual index, 3))
    (hpre : ∀ vm₁, s.WarmedH vm₁ → Pre ⟨T.setVm vm₁, locs, cells, slots⟩ (Value.ref b :: argsL).toArray) :
    ∃ (v : Option Value) (vm₁ : Vm) (B : Pt), s.WarmedH vm₁ ∧ Stand p l e R s m args below meth c B.U B.locs B.cells B.slots ∧ Post ⟨T.setVm vm₁, locs, cells, slots⟩ (Value.ref b :: argsL).toArray v B ∧
      ∀ target, Steps p.tables e below (B.U.setTop { g with pc := g.pc + 3, stack := v.toList ++ rest }) target → Steps p.tables e below (T.setTop g) target := by
  obtain ⟨mk, methM, hnamed, hmethM, hstM, habM⟩ := Cond.instanceMethod_spec hinst
  obtain ⟨m8, methM', cM, hn8, hmethM', -, -, -, -, -, -, hsigM⟩ := Cond.codeWith_spec hcode
  cases Option.some.inj (hn8.symm.trans hnamed)
  cases hmethM.symm.trans hmethM'
  obtain ⟨c2, r2, m2, q1, q2, q3, q4, kP, hkP, hkPi⟩ := Cond.selects_spec hsel
  cases hcls.symm.trans q1
  cases (State.methodFound?_of_named hnamed hy).symm.trans q2
  cases hnamed.symm.trans q3
  have hselP : selectMethod e.platform s.vm cellB.cls mk = .method mk := by rw [Launch.admits_selectMethod X.admits]; exact q4
  obtain ⟨vm₁, X₁, hstep₁⟩ := X.invokevirtual hexec hown hlink hnamed hmethM hstM hkP hkPi hy (a := b) (cell := cellB) hcell
    (fun z h => by rw [h] at hobj; cases hobj) hselP hmethM habM hkP hkPi (g := g) hg (argsL := argsL) (rest := rest) (hlen _ hsigM) hstack hdg
  obtain ⟨v, B, X', hpost, hsteps⟩ := hK m meth c ⟨T.setVm vm₁, locs, cells, slots⟩ { g with stack := rest } (.invokevirtual index) mk (Value.ref b :: argsL).toArray X₁ hg hsize hdg hW (X₁.named hnamed) (hpre vm₁ X₁.warmed)
  exact ⟨v, vm₁, B, X₁.warmed, X', hpost, fun target h => hstep₁ _ fun acts => by rw [doInvoke_state]; exact hsteps.trans h⟩
abbrev vx_CVW (R : Room) (s : State) (args : Array Value) (own C : String) (index : Nat) (y : MethodName) (bytes : ByteArray) (maxL : Nat) (ret : Option FieldType) (hh : List (Nat × Nat × Nat × Nat)) (ws : List Cond) (rm : Room) (mc ms n : Nat) : Prop :=
  (rm.cells = mc ∧ rm.slots = ms ∧ rm.frames + 1 ≤ R.frames ∧ 8 + (maxL + 11) + rm.locals ≤ R.locals ∧ (∀ w ∈ ws, ∀ (a' : Array Value) (U : State), s.WarmedH U.vm → w.before a' U = true) ∧ Cond.codeWith y bytes maxL ret hh ∈ ws) ∧
  (Cond.codeWith y bytes maxL ret hh).before args s = true ∧ (Cond.initialized y.cls).before args s = true ∧ (y.cls ≠ "java/lang/invoke/MethodHandle" ∧ y.cls ≠ "java/lang/invoke/VarHandle") ∧
  (∀ sig, parseMethodDescriptor y.desc = some sig → n = sig.parameters.length) ∧ (Cond.methodLink own index y).before args s = true ∧ (Cond.instanceMethod y).before args s = true ∧ (Cond.selects C y y).before args s = true
theorem vx_cwVW {own C : String} {index maxL mc ms : Nat} {y : MethodName} {bytes : ByteArray} {ret : Option FieldType} {hh : List (Nat × Nat × Nat × Nat)} {Ts ws ws' : List Cond} {rm : Room} (n : Nat) (ht : ∀ w ∈ Ts, w.before args s = true) (hT : GoodIn Ts (wsV own index C y ws)) (hw : ws = Cond.codeWith y bytes maxL ret hh :: ws') (hrc : rm.cells = mc) (hrs : rm.slots = ms)
    (hd : y.cls = C ∧ y.cls ≠ "java/lang/invoke/MethodHandle" ∧ y.cls ≠ "java/lang/invoke/VarHandle" ∧ (parseMethodDescriptor y.desc).map (fun d => d.parameters.length) = some n) (hR : rm.frames + 1 ≤ R.frames ∧ 8 + (maxL + 11) + rm.locals ≤ R.locals) :
    vx_CVW R s args own C index y bytes maxL ret hh ws rm mc ms n := by
  obtain ⟨hC, hd⟩ := hd
  subst hC
  have ok : ∀ w ∈ wsV own index y.cls y ws, w.before args s = true := fun w h => ht w (hT w h).1
  have hG : GoodIn Ts ws := fun w h => hT w (by unfold wsV; exact List.mem_append_right _ h)
  have hc : Cond.codeWith y bytes maxL ret hh ∈ ws := by rw [hw]; exact List.mem_cons_self
  refine ⟨⟨hrc, hrs, hR.1, hR.2, pay_in ht hG, hc⟩, ht _ (hG _ hc).1, ok _ (by simp [wsV]), ⟨hd.1, hd.2.1⟩, fun sig h => ?_, ok _ (by simp [wsV]), ok _ (by simp [wsV]), ok _ (by simp [wsV])⟩
  have h2 := hd.2.2
  rw [h] at h2
  exact (Option.some.inj h2).symm
theorem vx_runVW {y : MethodName} {bytes cc : ByteArray} {maxL nL mc ms n index : Nat} {ret : Option FieldType} {hh : List (Nat × Nat × Nat × Nat)} {ws : List Cond} {rm : Room} {Pc : Array Value → State → Prop} {Qc : Array Value → State → Outcome → State → Prop} {free : Addr → Prop} {Ts : List Cond} {own C : String} {b : Addr} {As rest : List Value} {g : JFrame}
    (S : CallFix p m c cc nL s args Ts own) (hM : Met l y ws rm Pc Qc mc ms free) (cw : vx_CVW R s args own C index y bytes maxL ret hh ws rm mc ms n) (hp : PreV s H C b Pc As)
    (hg : g.method = m) (hn : As.length = n) (hsize : g.locals.size = nL) (hstack : g.stack = As.reverse ++ .ref b :: rest) (hW : 2 * g.monitorRoom + (rest.map fun v => v.category).sum ≤ 8) (hdg : decode cc g.pc = .ok (.invokevirtual index, 3)) (hf : cells + mc ≤ R.cells ∧ slots + ms ≤ R.slots) :
    va_Run p l e R s m args below meth c H locs cells slots mc ms g rest (Qc (Value.ref b :: As).toArray) free := by
  obtain ⟨⟨hrc, hrs, hfr, hlo, hws, hcw⟩, hcode, hini, hy, hlen, hl, hin, hse⟩ := cw
  have hK : Back l R p e below s args y 3 8 (PreOf R mc ms Pc) (PostOf Qc mc ms free) := va_backW (hh := hh) (bytes := bytes) (maxL := maxL) (ret := ret) hM hp.1 hrc hrs hfr hlo hws hcw (fun a' U hW => word_at hW (Or.inl (by first | rfl | simp [Cond.onTables, Cond.keeps, Cond.steady])) hini)
  obtain ⟨hx, hb, hml, ho, -⟩ := S
  obtain ⟨-, ⟨cellB, hcB, hoB, hclB⟩, hPc⟩ := hp
  intro T hT X
  obtain ⟨v, vm₁, ⟨U', l2, c2, s2⟩, hW₁, X', ⟨g', mk, t, L, e1, e2, hq, h1, hL, h2, h3⟩, st⟩ := vx_callVW X hx (C := C) (hh := hh) (bytes := bytes) (maxL := maxL) (ret := ret) ho hl hin hse hcode hy hK (by rw [hT]; exact hcB) hoB hclB hg (hsize.trans hml.symm) (argsL := As) (rest := rest) (fun sig h => hn.trans (hlen sig h)) hstack hW (by rw [hb]; exact hdg)
    (fun vm₁ hW₁ => ⟨hf.1, hf.2, hPc (T.setVm vm₁) hT hW₁⟩)
  dsimp only [Pt.U, Pt.locs, Pt.cells, Pt.slots] at X' e1 e2 h1 h2 h3 st
  subst h1; subst h2; subst h3
  exact ⟨v, (T.setVm vm₁).calling g' mk (Value.ref b :: As).toArray, t, U', L, hT, X', hL, e1, e2, hq, st⟩
section
variable {y : MethodName} {bytes cc : ByteArray} {maxL nL mc ms n index : Nat} {ret : Option FieldType} {ws : List Cond} {rm : Room} {Pc : Array Value → State → Prop} {Qc : Array Value → State → Outcome → State → Prop} {XC : String → State → State → Prop} {free : Addr → Prop} {Ts : List Cond} {own C : String} {b : Addr} {As rest : List Value} {g : JFrame}
theorem vx_runVX {hh : List (Nat × Nat × Nat × Nat)} (S : CallFix p m c cc nL s args Ts own) (hM : vx_Met l y ws rm Pc Qc XC mc ms free) (cw : vx_CVW R s args own C index y bytes maxL ret hh ws rm mc ms n) (hp : PreV s H C b Pc As)
    (hg : g.method = m) (hn : As.length = n) (hsize : g.locals.size = nL) (hstack : g.stack = As.reverse ++ .ref b :: rest) (hW : 2 * g.monitorRoom + (rest.map fun v => v.category).sum ≤ 8) (hdg : decode cc g.pc = .ok (.invokevirtual index, 3)) (hf : cells + mc ≤ R.cells ∧ slots + ms ≤ R.slots) :
    vx_Run p l e R s m args below meth c H locs cells slots mc ms g rest (Qc (Value.ref b :: As).toArray) XC free := by
  obtain ⟨⟨hrc, hrs, hfr, hlo, hws, hcw⟩, hcode, hini, hy, hlen, hl, hin, hse⟩ := cw
  have hK : vx_Back l R p e below s args y 3 8 (PreOf R mc ms Pc) (PostOf Qc mc ms free) (vx_Post XC mc ms free) := vx_backW (hh := hh) (bytes := bytes) (maxL := maxL) (ret := ret) hM hp.1 hrc hrs hfr hlo hws hcw (fun a' U hW => word_at hW (Or.inl (by first | rfl | simp [Cond.onTables, Cond.keeps, Cond.steady])) hini)
  obtain ⟨hx, hb, hml, ho, -⟩ := S
  obtain ⟨-, ⟨cellB, hcB, hoB, hclB⟩, hPc⟩ := hp
  intro T hT X
  rcases vx_callVX X hx (C := C) (hh := hh) (bytes := bytes) (maxL := maxL) (ret := ret) ho hl hin hse hcode hy hK (by rw [hT]; exact hcB) hoB hclB hg (hsize.trans hml.symm) (argsL := As) (rest := rest) (fun sig h => hn.trans (hlen sig h)) hstack hW (by rw [hb]; exact hdg)
    (fun vm₁ hW₁ => ⟨hf.1, hf.2, hPc (T.setVm vm₁) hT hW₁⟩) with ⟨v, vm₁, ⟨U', l2, c2, s2⟩, hW₁, X', ⟨g', mk, t, L, e1, e2, hq, h1, hL, h2, h3⟩, st⟩ | ⟨q, vm₁, ⟨U', l2, c2, s2⟩, hW₁, X', ⟨g', mk, t, L, E, ce, e1, e2, hq, hce, hcv, hcl, h1, hL, h2, h3⟩, st⟩
  · dsimp only [Pt.U, Pt.locs, Pt.cells, Pt.slots] at X' e1 e2 h1 h2 h3 st
    subst h1; subst h2; subst h3
    exact Or.inl ⟨v, (T.setVm vm₁).calling g' mk (Value.ref b :: As).toArray, t, U', L, hT, X', hL, e1, e2, hq, st⟩
  · dsimp only [Pt.U, Pt.locs, Pt.cells, Pt.slots] at X' e1 e2 h1 h2 h3 st hcl
    subst h1; subst h2; subst h3
    exact Or.inr ⟨q, (T.setVm vm₁).calling g' mk (Value.ref b :: As).toArray, t, U', L, E, ce, hT, X', hL, e1, e2, hq, hce, hcv, vx_cls hW₁ hcl, st⟩
theorem vx_runSX {hh : List (Nat × Nat × Nat × Nat)} (S : CallFix p m c cc nL s args Ts own) (hM : vx_Met l y ws rm Pc Qc XC mc ms free) (cw : vx_CSW R s args own index y bytes maxL ret hh ws rm mc ms n) (hp : PreS s H Pc As)
    (hg : g.method = m) (hn : As.length = n) (hsize : g.locals.size = nL) (hstack : g.stack = As.reverse ++ rest) (hW : 2 * g.monitorRoom + (rest.map fun v => v.category).sum ≤ 8) (hdg : decode cc g.pc = .ok (.invokestatic index, 3)) (hf : cells + mc ≤ R.cells ∧ slots + ms ≤ R.slots) :
    vx_Run p l e R s m args below meth c H locs cells slots mc ms g rest (Qc As.toArray) XC free := by
  obtain ⟨⟨hrc, hrs, hfr, hlo, hws, hcw⟩, hcode, hini, hy, hlen, hl, hstt⟩ := cw
  have hK : vx_Back l R p e below s args y 3 8 (PreOf R mc ms Pc) (PostOf Qc mc ms free) (vx_Post XC mc ms free) := vx_backW (hh := hh) (bytes := bytes) (maxL := maxL) (ret := ret) hM hp.1 hrc hrs hfr hlo hws hcw (fun a' U hW => word_at hW (Or.inl (by first | rfl | simp [Cond.onTables, Cond.keeps, Cond.steady])) hini)
  obtain ⟨hx, hb, hml, ho, -⟩ := S
  intro T hT X
  rcases vx_callSX X hx (hh := hh) (bytes := bytes) (maxL := maxL) (ret := ret) ho hl hstt hini hcode hy hK hg (hsize.trans hml.symm) (argsL := As) (rest := rest) (fun sig h => hn.trans (hlen sig h)) hstack hW (by rw [hb]; exact hdg)
    (fun vm₁ hW₁ => ⟨hf.1, hf.2, hp.2 (T.setVm vm₁) hT hW₁⟩) with ⟨v, vm₁, ⟨U', l2, c2, s2⟩, hW₁, X', ⟨g', mk, t, L, e1, e2, hq, h1, hL, h2, h3⟩, st⟩ | ⟨q, vm₁, ⟨U', l2, c2, s2⟩, hW₁, X', ⟨g', mk, t, L, E, ce, e1, e2, hq, hce, hcv, hcl, h1, hL, h2, h3⟩, st⟩
  · dsimp only [Pt.U, Pt.locs, Pt.cells, Pt.slots] at X' e1 e2 h1 h2 h3 st
    subst h1; subst h2; subst h3
    exact Or.inl ⟨v, (T.setVm vm₁).calling g' mk As.toArray, t, U', L, hT, X', hL, e1, e2, hq, st⟩
  · dsimp only [Pt.U, Pt.locs, Pt.cells, Pt.slots] at X' e1 e2 h1 h2 h3 st hcl
    subst h1; subst h2; subst h3
    exact Or.inr ⟨q, (T.setVm vm₁).calling g' mk As.toArray, t, U', L, E, ce, hT, X', hL, e1, e2, hq, hce, hcv, vx_cls hW₁ hcl, st⟩
end
end VXH
theorem vx_ofWH {l : Launch} {y : MethodName} {ws ws' : List Cond} {rm : Room} {Pc : Array Value → State → Prop} {Qc : Array Value → State → Outcome → State → Prop} {XC : String → State → State → Prop} {mc ms : Nat} {free : Addr → Prop} {cc : ByteArray} {maxL : Nat} {ret : Option FieldType} {hh : List (Nat × Nat × Nat × Nat)}
    (hy : plainName y.cls = true) (hw : ws = Cond.codeWith y cc maxL ret hh :: ws')
    (body : ∀ p e s m args below meth c s₁, BodyLoose p l y (headSpec ws rm) cc maxL ret e s m args below meth c s₁ → c.maxLocals = maxL → Pc args s →
      W p l e (headSpec ws rm).room s m args below meth c s.heap [] 0 0 (vx_MQ below Qc XC args s mc ms free) (entryFrame m args maxL)) : vx_Met l y ws rm Pc Qc XC mc ms free := by
  refine MetFree.of_bodyS (code := cc) (maxLocals := maxL) (ret := ret) hy ?_ ?_
  · intro args s m h hn
    obtain ⟨m9, meth, c, hn9, h1, h2, h3, h4, -, h5, h6, -⟩ := Cond.codeWith_spec (atoms_spec (ws := ws) h _ (by rw [hw]; exact List.mem_cons_self))
    cases hn.symm.trans hn9
    exact ⟨meth, c, h1, h2, h3, h4, h5, h6⟩
  · intro p e s m args below meth c s₁ B hml hP _
    have hh0 : s₁.heap = s.heap := by rw [B.state]; rfl
    obtain ⟨t, a1, o, b1, b2, b3⟩ := body p e s m args below meth c s₁ B hml hP s₁ hh0 (Stand.of_body B)
    exact ⟨t, o, a1, b1, b2, b3⟩
/-! ===== END ===== -/
end
section
/-! ===== BEGIN printed: names, fields, word lists, decode rows ===== -/
def RX0 : String := "LeaseGates$Account"
def TX0 : u_T := fun k => match k with
  | 0 => ("LeaseGates$Account", "share", "I", false)
  | 1 => ("LeaseGates$Account", "asked", "Z", false)
  | 2 => ("LeaseGates$Account", "askedAt", "I", false)
  | _ => ("LeaseGates$Account", "answer", "LLeaseGates$Message;", false)
def tyX0 : Nat → FieldType := fun k => match k with
  | 0 => .int
  | 1 => .boolean
  | 2 => .int
  | _ => .object "LeaseGates$Message"
abbrev wsX00 : List Cond := u_ws RX0 TX0 4
theorem nmX0 : ∀ a, a < 4 → ∀ b, b < 4 → a ≠ b → (TX0 a).2.1 ≠ (TX0 b).2.1 := by decide +kernel
theorem tyX0_ok : ∀ k, k < 4 → parseFieldDescriptor (TX0 k).2.2.1 = some (tyX0 k) := by decide +kernel
abbrev cX0_init : ByteArray := prog_2_method_1_code
def yX0_init : MethodName := ⟨RX0, "<init>", "()V"⟩
abbrev cX0_askedOfLate : ByteArray := prog_2_method_2_code
def yX0_askedOfLate : MethodName := ⟨RX0, "askedOfLate", "(I)Z"⟩
def RX1 : String := "LeaseGates$Bucket"
def TX1 : u_T := fun k => match k with
  | 0 => ("LeaseGates$Bucket", "loans", "Ljava/util/ArrayList;", true)
  | 1 => ("LeaseGates$Bucket", "rate", "I", false)
  | 2 => ("LeaseGates$Bucket", "burst", "I", false)
  | 3 => ("LeaseGates$Bucket", "level", "I", false)
  | 4 => ("LeaseGates$Bucket", "lent", "I", false)
  | _ => ("LeaseGates$Bucket", "spentAtGates", "I", false)
def tyX1 : Nat → FieldType := fun k => match k with
  | 0 => .object "java/util/ArrayList"
  | 1 => .int
  | 2 => .int
  | 3 => .int
  | 4 => .int
  | _ => .int
abbrev wsX10 : List Cond := u_ws RX1 TX1 6
theorem nmX1 : ∀ a, a < 6 → ∀ b, b < 6 → a ≠ b → (TX1 a).2.1 ≠ (TX1 b).2.1 := by decide +kernel
theorem tyX1_ok : ∀ k, k < 6 → parseFieldDescriptor (TX1 k).2.2.1 = some (tyX1 k) := by decide +kernel
abbrev cX1_init : ByteArray := prog_3_method_1_code
def yX1_init : MethodName := ⟨RX1, "<init>", "()V"⟩
abbrev cX1_reshape : ByteArray := prog_3_method_2_code
def yX1_reshape : MethodName := ⟨RX1, "reshape", "(II)V"⟩
abbrev cX1_fill : ByteArray := prog_3_method_3_code
def yX1_fill : MethodName := ⟨RX1, "fill", "(J)V"⟩
abbrev cX1_pass : ByteArray := prog_3_method_4_code
def yX1_pass : MethodName := ⟨RX1, "pass", "(II)V"⟩
abbrev cX1_loanThatEndsFirst : ByteArray := prog_3_method_5_code
def yX1_loanThatEndsFirst : MethodName := ⟨RX1, "loanThatEndsFirst", "()I"⟩
abbrev cX1_close : ByteArray := prog_3_method_6_code
def yX1_close : MethodName := ⟨RX1, "close", "(I)V"⟩
abbrev cX1_free : ByteArray := prog_3_method_7_code
def yX1_free : MethodName := ⟨RX1, "free", "()I"⟩
abbrev cX1_lend : ByteArray := prog_3_method_8_code
def yX1_lend : MethodName := ⟨RX1, "lend", "(III)V"⟩
abbrev cX1_bringBack : ByteArray := prog_3_method_9_code
def yX1_bringBack : MethodName := ⟨RX1, "bringBack", "(II)Z"⟩
def RX2 : String := "LeaseGates$Desk"
def TX2 : u_T := fun k => match k with
  | 0 => ("LeaseGates$Desk", "gate", "I", true)
  | 1 => ("LeaseGates$Desk", "key", "I", true)
  | 2 => ("LeaseGates$Desk", "holds", "Ljava/util/ArrayList;", true)
  | 3 => ("LeaseGates$Desk", "demand", "I", false)
  | 4 => ("LeaseGates$Desk", "use", "I", false)
  | 5 => ("LeaseGates$Desk", "asks", "I", false)
  | 6 => ("LeaseGates$Desk", "open", "Z", false)
  | 7 => ("LeaseGates$Desk", "openSince", "I", false)
  | _ => ("LeaseGates$Desk", "refusals", "I", false)
def tyX2 : Nat → FieldType := fun k => match k with
  | 0 => .int
  | 1 => .int
  | 2 => .object "java/util/ArrayList"
  | 3 => .int
  | 4 => .int
  | 5 => .int
  | 6 => .boolean
  | 7 => .int
  | _ => .int
abbrev wsX20 : List Cond := u_ws RX2 TX2 9
theorem nmX2 : ∀ a, a < 9 → ∀ b, b < 9 → a ≠ b → (TX2 a).2.1 ≠ (TX2 b).2.1 := by decide +kernel
theorem tyX2_ok : ∀ k, k < 9 → parseFieldDescriptor (TX2 k).2.2.1 = some (tyX2 k) := by decide +kernel
abbrev cX2_init : ByteArray := prog_4_method_1_code
def yX2_init : MethodName := ⟨RX2, "<init>", "(II)V"⟩
abbrev cX2_clear : ByteArray := prog_4_method_2_code
def yX2_clear : MethodName := ⟨RX2, "clear", "()V"⟩
abbrev cX2_liveTokens : ByteArray := prog_4_method_3_code
def yX2_liveTokens : MethodName := ⟨RX2, "liveTokens", "(I)I"⟩
abbrev cX2_spend : ByteArray := prog_4_method_4_code
def yX2_spend : MethodName := ⟨RX2, "spend", "(II)Z"⟩
abbrev cX2_takeOut : ByteArray := prog_4_method_5_code
def yX2_takeOut : MethodName := ⟨RX2, "takeOut", "(II)V"⟩
abbrev cX2_liveHoldThatEndsFirst : ByteArray := prog_4_method_6_code
def yX2_liveHoldThatEndsFirst : MethodName := ⟨RX2, "liveHoldThatEndsFirst", "(I)I"⟩
abbrev cX2_settle : ByteArray := prog_4_method_7_code
def yX2_settle : MethodName := ⟨RX2, "settle", "(IILLeaseGates$Post;)V"⟩
abbrev cX2_mayAsk : ByteArray := prog_4_method_8_code
def yX2_mayAsk : MethodName := ⟨RX2, "mayAsk", "(I)Z"⟩
abbrev cX2_giveBack : ByteArray := prog_4_method_9_code
def yX2_giveBack : MethodName := ⟨RX2, "giveBack", "(IILLeaseGates$Post;)V"⟩
abbrev cX2_accept : ByteArray := prog_4_method_10_code
def yX2_accept : MethodName := ⟨RX2, "accept", "(LLeaseGates$Message;)Z"⟩
def RX3 : String := "LeaseGates$Gate"
def TX3 : u_T := fun k => match k with
  | 0 => ("LeaseGates$Gate", "ticker", "LLeaseGates$Ticker;", true)
  | 1 => ("LeaseGates$Gate", "desks", "[LLeaseGates$Desk;", true)
  | _ => ("LeaseGates$Gate", "birth", "I", false)
def tyX3 : Nat → FieldType := fun k => match k with
  | 0 => .object "LeaseGates$Ticker"
  | 1 => .array (.object "LeaseGates$Desk")
  | _ => .int
abbrev wsX30 : List Cond := u_ws RX3 TX3 3
theorem nmX3 : ∀ a, a < 3 → ∀ b, b < 3 → a ≠ b → (TX3 a).2.1 ≠ (TX3 b).2.1 := by decide +kernel
theorem tyX3_ok : ∀ k, k < 3 → parseFieldDescriptor (TX3 k).2.2.1 = some (tyX3 k) := by decide +kernel
abbrev cX3_init : ByteArray := prog_5_method_1_code
def yX3_init : MethodName := ⟨RX3, "<init>", "(I)V"⟩
abbrev cX3_spend : ByteArray := prog_5_method_2_code
def yX3_spend : MethodName := ⟨RX3, "spend", "(II)Z"⟩
abbrev cX3_settle : ByteArray := prog_5_method_3_code
def yX3_settle : MethodName := ⟨RX3, "settle", "(LLeaseGates$Post;)V"⟩
abbrev cX3_hearGrant : ByteArray := prog_5_method_4_code
def yX3_hearGrant : MethodName := ⟨RX3, "hearGrant", "(LLeaseGates$Message;)Z"⟩
abbrev cX3_startAnew : ByteArray := prog_5_method_5_code
def yX3_startAnew : MethodName := ⟨RX3, "startAnew", "()I"⟩
def RX4 : String := "LeaseGates$Hold"
def TX4 : u_T := fun k => match k with
  | 0 => ("LeaseGates$Hold", "loan", "I", true)
  | 1 => ("LeaseGates$Hold", "asked", "I", true)
  | 2 => ("LeaseGates$Hold", "span", "I", true)
  | _ => ("LeaseGates$Hold", "tokens", "I", false)
def tyX4 : Nat → FieldType := fun k => match k with
  | 0 => .int
  | 1 => .int
  | 2 => .int
  | _ => .int
abbrev wsX40 : List Cond := u_ws RX4 TX4 4
theorem nmX4 : ∀ a, a < 4 → ∀ b, b < 4 → a ≠ b → (TX4 a).2.1 ≠ (TX4 b).2.1 := by decide +kernel
theorem tyX4_ok : ∀ k, k < 4 → parseFieldDescriptor (TX4 k).2.2.1 = some (tyX4 k) := by decide +kernel
abbrev cX4_init : ByteArray := prog_6_method_1_code
def yX4_init : MethodName := ⟨RX4, "<init>", "(LLeaseGates$Message;I)V"⟩
abbrev cX4_isLive : ByteArray := prog_6_method_2_code
def yX4_isLive : MethodName := ⟨RX4, "isLive", "(I)Z"⟩
abbrev cX4_isHalfOver : ByteArray := prog_6_method_3_code
def yX4_isHalfOver : MethodName := ⟨RX4, "isHalfOver", "(I)Z"⟩
abbrev cX4_end : ByteArray := prog_6_method_4_code
def yX4_end : MethodName := ⟨RX4, "end", "()I"⟩
def RX5 : String := "LeaseGates$Loan"
def TX5 : u_T := fun k => match k with
  | 0 => ("LeaseGates$Loan", "number", "I", true)
  | 1 => ("LeaseGates$Loan", "tokens", "I", true)
  | _ => ("LeaseGates$Loan", "end", "I", true)
def tyX5 : Nat → FieldType := fun k => match k with
  | 0 => .int
  | 1 => .int
  | _ => .int
abbrev wsX50 : List Cond := u_ws RX5 TX5 3
theorem nmX5 : ∀ a, a < 3 → ∀ b, b < 3 → a ≠ b → (TX5 a).2.1 ≠ (TX5 b).2.1 := by decide +kernel
theorem tyX5_ok : ∀ k, k < 3 → parseFieldDescriptor (TX5 k).2.2.1 = some (tyX5 k) := by decide +kernel
abbrev cX5_init : ByteArray := prog_7_method_1_code
def yX5_init : MethodName := ⟨RX5, "<init>", "(III)V"⟩
def RX6 : String := "LeaseGates$Message"
def TX6 : u_T := fun k => match k with
  | 0 => ("LeaseGates$Message", "kind", "I", true)
  | 1 => ("LeaseGates$Message", "gate", "I", true)
  | 2 => ("LeaseGates$Message", "key", "I", true)
  | 3 => ("LeaseGates$Message", "birth", "I", true)
  | 4 => ("LeaseGates$Message", "tokens", "I", true)
  | 5 => ("LeaseGates$Message", "count", "I", true)
  | 6 => ("LeaseGates$Message", "loan", "I", true)
  | _ => ("LeaseGates$Message", "loanLength", "I", true)
def tyX6 : Nat → FieldType := fun k => match k with
  | 0 => .int
  | 1 => .int
  | 2 => .int
  | 3 => .int
  | 4 => .int
  | 5 => .int
  | 6 => .int
  | _ => .int
abbrev wsX60 : List Cond := u_ws RX6 TX6 8
theorem nmX6 : ∀ a, a < 8 → ∀ b, b < 8 → a ≠ b → (TX6 a).2.1 ≠ (TX6 b).2.1 := by decide +kernel
theorem tyX6_ok : ∀ k, k < 8 → parseFieldDescriptor (TX6 k).2.2.1 = some (tyX6 k) := by decide +kernel
abbrev cX6_init : ByteArray := prog_8_method_1_code
def yX6_init : MethodName := ⟨RX6, "<init>", "(IIIII)V"⟩
abbrev cX6_init_ : ByteArray := prog_8_method_2_code
def yX6_init_ : MethodName := ⟨RX6, "<init>", "(LLeaseGates$Message;III)V"⟩
abbrev cX6_init__ : ByteArray := prog_8_method_3_code
def yX6_init__ : MethodName := ⟨RX6, "<init>", "(IIILLeaseGates$Hold;)V"⟩
def RX7 : String := "LeaseGates$Post"
def TX7 : u_T := fun k => match k with
  | 0 => ("LeaseGates$Post", "slots", "[LLeaseGates$Message;", true)
  | _ => ("LeaseGates$Post", "count", "I", false)
def tyX7 : Nat → FieldType := fun k => match k with
  | 0 => .array (.object "LeaseGates$Message")
  | _ => .int
abbrev wsX70 : List Cond := u_ws RX7 TX7 2
theorem nmX7 : ∀ a, a < 2 → ∀ b, b < 2 → a ≠ b → (TX7 a).2.1 ≠ (TX7 b).2.1 := by decide +kernel
theorem tyX7_ok : ∀ k, k < 2 → parseFieldDescriptor (TX7 k).2.2.1 = some (tyX7 k) := by decide +kernel
abbrev cX7_init : ByteArray := prog_9_method_1_code
def yX7_init : MethodName := ⟨RX7, "<init>", "()V"⟩
abbrev cX7_send : ByteArray := prog_9_method_2_code
def yX7_send : MethodName := ⟨RX7, "send", "(LLeaseGates$Message;)V"⟩
abbrev cX7_find : ByteArray := prog_9_method_3_code
def yX7_find : MethodName := ⟨RX7, "find", "(I)LLeaseGates$Message;"⟩
abbrev cX7_discard : ByteArray := prog_9_method_4_code
def yX7_discard : MethodName := ⟨RX7, "discard", "(I)V"⟩
def RX8 : String := "LeaseGates$Root"
def TX8 : u_T := fun k => match k with
  | 0 => ("LeaseGates$Root", "ticker", "LLeaseGates$Ticker;", true)
  | 1 => ("LeaseGates$Root", "buckets", "[LLeaseGates$Bucket;", true)
  | 2 => ("LeaseGates$Root", "accounts", "[LLeaseGates$Account;", true)
  | 3 => ("LeaseGates$Root", "births", "[I", true)
  | 4 => ("LeaseGates$Root", "loanLength", "I", false)
  | _ => ("LeaseGates$Root", "loansSoFar", "I", false)
def tyX8 : Nat → FieldType := fun k => match k with
  | 0 => .object "LeaseGates$Ticker"
  | 1 => .array (.object "LeaseGates$Bucket")
  | 2 => .array (.object "LeaseGates$Account")
  | 3 => .array .int
  | 4 => .int
  | _ => .int
abbrev wsX80 : List Cond := u_ws RX8 TX8 6
theorem nmX8 : ∀ a, a < 6 → ∀ b, b < 6 → a ≠ b → (TX8 a).2.1 ≠ (TX8 b).2.1 := by decide +kernel
theorem tyX8_ok : ∀ k, k < 6 → parseFieldDescriptor (TX8 k).2.2.1 = some (tyX8 k) := by decide +kernel
abbrev cX8_init : ByteArray := prog_10_method_1_code
def yX8_init : MethodName := ⟨RX8, "<init>", "()V"⟩
abbrev cX8_accountOf : ByteArray := prog_10_method_2_code
def yX8_accountOf : MethodName := ⟨RX8, "accountOf", "(II)LLeaseGates$Account;"⟩
abbrev cX8_advance : ByteArray := prog_10_method_3_code
def yX8_advance : MethodName := ⟨RX8, "advance", "(I)V"⟩
abbrev cX8_hearAsk : ByteArray := prog_10_method_4_code
def yX8_hearAsk : MethodName := ⟨RX8, "hearAsk", "(LLeaseGates$Message;LLeaseGates$Post;)Z"⟩
abbrev cX8_forgetAnswers : ByteArray := prog_10_method_5_code
def yX8_forgetAnswers : MethodName := ⟨RX8, "forgetAnswers", "(I)V"⟩
abbrev cX8_answerTo : ByteArray := prog_10_method_6_code
def yX8_answerTo : MethodName := ⟨RX8, "answerTo", "(LLeaseGates$Message;LLeaseGates$Account;)LLeaseGates$Message;"⟩
abbrev cX8_shareOf : ByteArray := prog_10_method_7_code
def yX8_shareOf : MethodName := ⟨RX8, "shareOf", "(III)I"⟩
abbrev cX8_hearReturn : ByteArray := prog_10_method_8_code
def yX8_hearReturn : MethodName := ⟨RX8, "hearReturn", "(LLeaseGates$Message;)Z"⟩
def RX9 : String := "LeaseGates$Ticker"
def TX9 : u_T := fun k => match k with
  | 0 => ("LeaseGates$Ticker", "thousandths", "J", false)
  | _ => ("LeaseGates$Ticker", "pace", "I", false)
def tyX9 : Nat → FieldType := fun k => match k with
  | 0 => .long
  | _ => .int
abbrev wsX90 : List Cond := u_ws RX9 TX9 2
theorem nmX9 : ∀ a, a < 2 → ∀ b, b < 2 → a ≠ b → (TX9 a).2.1 ≠ (TX9 b).2.1 := by decide +kernel
theorem tyX9_ok : ∀ k, k < 2 → parseFieldDescriptor (TX9 k).2.2.1 = some (tyX9 k) := by decide +kernel
abbrev cX9_init : ByteArray := prog_11_method_1_code
def yX9_init : MethodName := ⟨RX9, "<init>", "()V"⟩
abbrev cX9_advance : ByteArray := prog_11_method_2_code
def yX9_advance : MethodName := ⟨RX9, "advance", "(I)V"⟩
abbrev cX9_now : ByteArray := prog_11_method_3_code
def yX9_now : MethodName := ⟨RX9, "now", "()I"⟩
def RX10 : String := "LeaseGates"
def TX10 : u_T := fun k => match k with
  | 0 => ("LeaseGates", "lender", "LLeaseGates$Root;", true)
  | 1 => ("LeaseGates", "spenders", "[LLeaseGates$Gate;", true)
  | _ => ("LeaseGates", "post", "LLeaseGates$Post;", true)
def tyX10 : Nat → FieldType := fun k => match k with
  | 0 => .object "LeaseGates$Root"
  | 1 => .array (.object "LeaseGates$Gate")
  | _ => .object "LeaseGates$Post"
abbrev wsX100 : List Cond := u_ws RX10 TX10 3
theorem nmX10 : ∀ a, a < 3 → ∀ b, b < 3 → a ≠ b → (TX10 a).2.1 ≠ (TX10 b).2.1 := by decide +kernel
theorem tyX10_ok : ∀ k, k < 3 → parseFieldDescriptor (TX10 k).2.2.1 = some (tyX10 k) := by decide +kernel
abbrev cX10_init : ByteArray := prog_1_method_1_code
def yX10_init : MethodName := ⟨RX10, "<init>", "()V"⟩
abbrev cX10_key : ByteArray := prog_1_method_2_code
def yX10_key : MethodName := ⟨RX10, "key", "(III)V"⟩
abbrev cX10_length : ByteArray := prog_1_method_3_code
def yX10_length : MethodName := ⟨RX10, "length", "(I)V"⟩
abbrev cX10_weight : ByteArray := prog_1_method_4_code
def yX10_weight : MethodName := ⟨RX10, "weight", "(III)V"⟩
abbrev cX10_speed : ByteArray := prog_1_method_5_code
def yX10_speed : MethodName := ⟨RX10, "speed", "(II)V"⟩
abbrev cX10_take : ByteArray := prog_1_method_6_code
def yX10_take : MethodName := ⟨RX10, "take", "(III)Z"⟩
abbrev cX10_work : ByteArray := prog_1_method_7_code
def yX10_work : MethodName := ⟨RX10, "work", "(I)I"⟩
abbrev cX10_carry : ByteArray := prog_1_method_8_code
def yX10_carry : MethodName := ⟨RX10, "carry", "(I)Z"⟩
abbrev cX10_drop : ByteArray := prog_1_method_9_code
def yX10_drop : MethodName := ⟨RX10, "drop", "(I)V"⟩
abbrev cX10_tick : ByteArray := prog_1_method_10_code
def yX10_tick : MethodName := ⟨RX10, "tick", "(I)V"⟩
abbrev cX10_restart : ByteArray := prog_1_method_11_code
def yX10_restart : MethodName := ⟨RX10, "restart", "(I)I"⟩
abbrev cX10_root : ByteArray := prog_1_method_12_code
def yX10_root : MethodName := ⟨RX10, "root", "(II)I"⟩
abbrev cX10_gate : ByteArray := prog_1_method_13_code
def yX10_gate : MethodName := ⟨RX10, "gate", "(III)I"⟩
abbrev cX10_message : ByteArray := prog_1_method_14_code
def yX10_message : MethodName := ⟨RX10, "message", "(II)I"⟩
abbrev cX10_sent : ByteArray := prog_1_method_15_code
def yX10_sent : MethodName := ⟨RX10, "sent", "()I"⟩
abbrev cX10_clock : ByteArray := prog_1_method_16_code
def yX10_clock : MethodName := ⟨RX10, "clock", "(I)I"⟩
abbrev cX10_tickerOf : ByteArray := prog_1_method_17_code
def yX10_tickerOf : MethodName := ⟨RX10, "tickerOf", "(I)LLeaseGates$Ticker;"⟩
abbrev cX10_requireMessage : ByteArray := prog_1_method_18_code
def yX10_requireMessage : MethodName := ⟨RX10, "requireMessage", "(I)LLeaseGates$Message;"⟩
abbrev cX10_requireGate : ByteArray := prog_1_method_19_code
def yX10_requireGate : MethodName := ⟨RX10, "requireGate", "(I)V"⟩
abbrev cX10_requireKey : ByteArray := prog_1_method_20_code
def yX10_requireKey : MethodName := ⟨RX10, "requireKey", "(I)V"⟩
abbrev cX10_requireWithin : ByteArray := prog_1_method_21_code
def yX10_requireWithin : MethodName := ⟨RX10, "requireWithin", "(III)V"⟩
def RX11 : String := "LeaseGatesModel"
def TX11 : u_T := fun k => match k with
  | 0 => ("LeaseGatesModel", "refusal", "I", false)
  | 1 => ("LeaseGatesModel", "gone", "[J", true)
  | 2 => ("LeaseGatesModel", "speeds", "[I", true)
  | 3 => ("LeaseGatesModel", "rates", "[I", true)
  | 4 => ("LeaseGatesModel", "bursts", "[I", true)
  | 5 => ("LeaseGatesModel", "levels", "[J", true)
  | 6 => ("LeaseGatesModel", "granted", "[I", true)
  | 7 => ("LeaseGatesModel", "loans", "I", false)
  | 8 => ("LeaseGatesModel", "loanKey", "[I", true)
  | 9 => ("LeaseGatesModel", "loanTokens", "[I", true)
  | 10 => ("LeaseGatesModel", "loanEnd", "[I", true)
  | 11 => ("LeaseGatesModel", "length", "I", false)
  | 12 => ("LeaseGatesModel", "heard", "[I", true)
  | 13 => ("LeaseGatesModel", "answered", "[I", true)
  | 14 => ("LeaseGatesModel", "lastNumber", "[I", true)
  | 15 => ("LeaseGatesModel", "lastTokens", "[I", true)
  | 16 => ("LeaseGatesModel", "lastLength", "[I", true)
  | 17 => ("LeaseGatesModel", "hasAsked", "[Z", true)
  | 18 => ("LeaseGatesModel", "askedAt", "[I", true)
  | 19 => ("LeaseGatesModel", "weights", "[I", true)
  | 20 => ("LeaseGatesModel", "births", "[I", true)
  | 21 => ("LeaseGatesModel", "demand", "[I", true)
  | 22 => ("LeaseGatesModel", "use", "[I", true)
  | 23 => ("LeaseGatesModel", "counts", "[I", true)
  | 24 => ("LeaseGatesModel", "isOpen", "[Z", true)
  | 25 => ("LeaseGatesModel", "since", "[I", true)
  | 26 => ("LeaseGatesModel", "refusals", "[I", true)
  | 27 => ("LeaseGatesModel", "holder", "[I", true)
  | 28 => ("LeaseGatesModel", "held", "[I", true)
  | 29 => ("LeaseGatesModel", "heldSince", "[I", true)
  | 30 => ("LeaseGatesModel", "heldLength", "[I", true)
  | 31 => ("LeaseGatesModel", "messages", "I", false)
  | 32 => ("LeaseGatesModel", "told", "[I", true)
  | _ => ("LeaseGatesModel", "isThere", "[Z", true)
def tyX11 : Nat → FieldType := fun k => match k with
  | 0 => .int
  | 1 => .array .long
  | 2 => .array .int
  | 3 => .array .int
  | 4 => .array .int
  | 5 => .array .long
  | 6 => .array .int
  | 7 => .int
  | 8 => .array .int
  | 9 => .array .int
  | 10 => .array .int
  | 11 => .int
  | 12 => .array .int
  | 13 => .array .int
  | 14 => .array .int
  | 15 => .array .int
  | 16 => .array .int
  | 17 => .array .boolean
  | 18 => .array .int
  | 19 => .array .int
  | 20 => .array .int
  | 21 => .array .int
  | 22 => .array .int
  | 23 => .array .int
  | 24 => .array .boolean
  | 25 => .array .int
  | 26 => .array .int
  | 27 => .array .int
  | 28 => .array .int
  | 29 => .array .int
  | 30 => .array .int
  | 31 => .int
  | 32 => .array .int
  | _ => .array .boolean
abbrev wsX110 : List Cond := u_ws RX11 TX11 34
theorem nmX11 : ∀ a, a < 34 → ∀ b, b < 34 → a ≠ b → (TX11 a).2.1 ≠ (TX11 b).2.1 := by decide +kernel
theorem tyX11_ok : ∀ k, k < 34 → parseFieldDescriptor (TX11 k).2.2.1 = some (tyX11 k) := by decide +kernel
abbrev cX11_init : ByteArray := prog_13_method_1_code
def yX11_init : MethodName := ⟨RX11, "<init>", "()V"⟩
abbrev cX11_thrown : ByteArray := prog_13_method_2_code
def yX11_thrown : MethodName := ⟨RX11, "thrown", "()I"⟩
abbrev cX11_refused : ByteArray := prog_13_method_3_code
def yX11_refused : MethodName := ⟨RX11, "refused", "(I)Z"⟩
abbrev cX11_isIn : ByteArray := prog_13_method_4_code
def yX11_isIn : MethodName := ⟨RX11, "isIn", "(III)Z"⟩
abbrev cX11_clockOf : ByteArray := prog_13_method_5_code
def yX11_clockOf : MethodName := ⟨RX11, "clockOf", "(I)I"⟩
abbrev cX11_lent : ByteArray := prog_13_method_6_code
def yX11_lent : MethodName := ⟨RX11, "lent", "(I)I"⟩
abbrev cX11_fill : ByteArray := prog_13_method_7_code
def yX11_fill : MethodName := ⟨RX11, "fill", "(IJ)V"⟩
abbrev cX11_key : ByteArray := prog_13_method_8_code
def yX11_key : MethodName := ⟨RX11, "key", "(III)V"⟩
abbrev cX11_length : ByteArray := prog_13_method_9_code
def yX11_length : MethodName := ⟨RX11, "length", "(I)V"⟩
abbrev cX11_weight : ByteArray := prog_13_method_10_code
def yX11_weight : MethodName := ⟨RX11, "weight", "(III)V"⟩
abbrev cX11_speed : ByteArray := prog_13_method_11_code
def yX11_speed : MethodName := ⟨RX11, "speed", "(II)V"⟩
abbrev cX11_nextEnd : ByteArray := prog_13_method_12_code
def yX11_nextEnd : MethodName := ⟨RX11, "nextEnd", "(I)I"⟩
abbrev cX11_fillAll : ByteArray := prog_13_method_13_code
def yX11_fillAll : MethodName := ⟨RX11, "fillAll", "(I)V"⟩
abbrev cX11_rootGoesOn : ByteArray := prog_13_method_14_code
def yX11_rootGoesOn : MethodName := ⟨RX11, "rootGoesOn", "(II)V"⟩
abbrev cX11_tick : ByteArray := prog_13_method_15_code
def yX11_tick : MethodName := ⟨RX11, "tick", "(I)V"⟩
abbrev cX11_liveTime : ByteArray := prog_13_method_16_code
def yX11_liveTime : MethodName := ⟨RX11, "liveTime", "(I)I"⟩
abbrev cX11_age : ByteArray := prog_13_method_17_code
def yX11_age : MethodName := ⟨RX11, "age", "(II)I"⟩
abbrev cX11_isHold : ByteArray := prog_13_method_18_code
def yX11_isHold : MethodName := ⟨RX11, "isHold", "(III)Z"⟩
abbrev cX11_isLive : ByteArray := prog_13_method_19_code
def yX11_isLive : MethodName := ⟨RX11, "isLive", "(II)Z"⟩
abbrev cX11_live : ByteArray := prog_13_method_20_code
def yX11_live : MethodName := ⟨RX11, "live", "(II)I"⟩
abbrev cX11_isPlace : ByteArray := prog_13_method_21_code
def yX11_isPlace : MethodName := ⟨RX11, "isPlace", "(II)Z"⟩
abbrev cX11_take : ByteArray := prog_13_method_22_code
def yX11_take : MethodName := ⟨RX11, "take", "(III)Z"⟩
abbrev cX11_send : ByteArray := prog_13_method_23_code
def yX11_send : MethodName := ⟨RX11, "send", "(IIIIIII)I"⟩
abbrev cX11_giveBack : ByteArray := prog_13_method_24_code
def yX11_giveBack : MethodName := ⟨RX11, "giveBack", "(II)I"⟩
abbrev cX11_work : ByteArray := prog_13_method_25_code
def yX11_work : MethodName := ⟨RX11, "work", "(I)I"⟩
abbrev cX11_restart : ByteArray := prog_13_method_26_code
def yX11_restart : MethodName := ⟨RX11, "restart", "(I)I"⟩
abbrev cX11_isMessage : ByteArray := prog_13_method_27_code
def yX11_isMessage : MethodName := ⟨RX11, "isMessage", "(I)Z"⟩
abbrev cX11_sendGrant : ByteArray := prog_13_method_28_code
def yX11_sendGrant : MethodName := ⟨RX11, "sendGrant", "(II)V"⟩
abbrev cX11_asks : ByteArray := prog_13_method_29_code
def yX11_asks : MethodName := ⟨RX11, "asks", "(IIIII)Z"⟩
abbrev cX11_answer : ByteArray := prog_13_method_30_code
def yX11_answer : MethodName := ⟨RX11, "answer", "(IIII)V"⟩
abbrev cX11_returns : ByteArray := prog_13_method_31_code
def yX11_returns : MethodName := ⟨RX11, "returns", "(IIII)Z"⟩
abbrev cX11_arrives : ByteArray := prog_13_method_32_code
def yX11_arrives : MethodName := ⟨RX11, "arrives", "(I)Z"⟩
abbrev cX11_carry : ByteArray := prog_13_method_33_code
def yX11_carry : MethodName := ⟨RX11, "carry", "(I)Z"⟩
abbrev cX11_drop : ByteArray := prog_13_method_34_code
def yX11_drop : MethodName := ⟨RX11, "drop", "(I)V"⟩
abbrev cX11_root : ByteArray := prog_13_method_35_code
def yX11_root : MethodName := ⟨RX11, "root", "(II)I"⟩
abbrev cX11_gate : ByteArray := prog_13_method_36_code
def yX11_gate : MethodName := ⟨RX11, "gate", "(III)I"⟩
abbrev cX11_message : ByteArray := prog_13_method_37_code
def yX11_message : MethodName := ⟨RX11, "message", "(II)I"⟩
abbrev cX11_sent : ByteArray := prog_13_method_38_code
def yX11_sent : MethodName := ⟨RX11, "sent", "()I"⟩
abbrev cX11_clock : ByteArray := prog_13_method_39_code
def yX11_clock : MethodName := ⟨RX11, "clock", "(I)I"⟩
def RJx145de : String := "java/io/Serializable"
def TJx145de : u_T := fun k => match k with
  | _ => ("", "", "", false)
def tyJx145de : Nat → FieldType := fun k => match k with
  | _ => .int
abbrev wsJx145de0 : List Cond := u_ws RJx145de TJx145de 0
theorem nmJx145de : ∀ a, a < 0 → ∀ b, b < 0 → a ≠ b → (TJx145de a).2.1 ≠ (TJx145de b).2.1 := by decide +kernel
theorem tyJx145de_ok : ∀ k, k < 0 → parseFieldDescriptor (TJx145de k).2.2.1 = some (tyJx145de k) := by decide +kernel
def RJx8e188 : String := "java/lang/Cloneable"
def TJx8e188 : u_T := fun k => match k with
  | _ => ("", "", "", false)
def tyJx8e188 : Nat → FieldType := fun k => match k with
  | _ => .int
abbrev wsJx8e1880 : List Cond := u_ws RJx8e188 TJx8e188 0
theorem nmJx8e188 : ∀ a, a < 0 → ∀ b, b < 0 → a ≠ b → (TJx8e188 a).2.1 ≠ (TJx8e188 b).2.1 := by decide +kernel
theorem tyJx8e188_ok : ∀ k, k < 0 → parseFieldDescriptor (TJx8e188 k).2.2.1 = some (tyJx8e188 k) := by decide +kernel
def RJxab1ab : String := "java/lang/Iterable"
def TJxab1ab : u_T := fun k => match k with
  | _ => ("", "", "", false)
def tyJxab1ab : Nat → FieldType := fun k => match k with
  | _ => .int
abbrev wsJxab1ab0 : List Cond := u_ws RJxab1ab TJxab1ab 0
theorem nmJxab1ab : ∀ a, a < 0 → ∀ b, b < 0 → a ≠ b → (TJxab1ab a).2.1 ≠ (TJxab1ab b).2.1 := by decide +kernel
theorem tyJxab1ab_ok : ∀ k, k < 0 → parseFieldDescriptor (TJxab1ab k).2.2.1 = some (tyJxab1ab k) := by decide +kernel
def RJ9 : String := "java/lang/Math"
def TJ9 : u_T := fun k => match k with
  | _ => ("", "", "", false)
def tyJ9 : Nat → FieldType := fun k => match k with
  | _ => .int
abbrev wsJ90 : List Cond := u_ws RJ9 TJ9 0
theorem nmJ9 : ∀ a, a < 0 → ∀ b, b < 0 → a ≠ b → (TJ9 a).2.1 ≠ (TJ9 b).2.1 := by decide +kernel
theorem tyJ9_ok : ∀ k, k < 0 → parseFieldDescriptor (TJ9 k).2.2.1 = some (tyJ9 k) := by decide +kernel
abbrev cJ9_max_7cf53 : ByteArray := prog_19_method_65_code
def yJ9_max_7cf53 : MethodName := ⟨RJ9, "max", "(II)I"⟩
abbrev cJ9_max_f86c9 : ByteArray := prog_19_method_66_code
def yJ9_max_f86c9 : MethodName := ⟨RJ9, "max", "(JJ)J"⟩
abbrev cJ9_min_7cf53 : ByteArray := prog_19_method_69_code
def yJ9_min_7cf53 : MethodName := ⟨RJ9, "min", "(II)I"⟩
abbrev cJ9_min_f86c9 : ByteArray := prog_19_method_70_code
def yJ9_min_f86c9 : MethodName := ⟨RJ9, "min", "(JJ)J"⟩
def RJ0 : String := "java/lang/String"
def TJ0 : u_T := fun k => match k with
  | _ => ("", "", "", false)
def tyJ0 : Nat → FieldType := fun k => match k with
  | _ => .int
abbrev wsJ00 : List Cond := u_ws RJ0 TJ0 0
theorem nmJ0 : ∀ a, a < 0 → ∀ b, b < 0 → a ≠ b → (TJ0 a).2.1 ≠ (TJ0 b).2.1 := by decide +kernel
theorem tyJ0_ok : ∀ k, k < 0 → parseFieldDescriptor (TJ0 k).2.2.1 = some (tyJ0 k) := by decide +kernel
def RJ10 : String := "java/lang/System"
def TJ10 : u_T := fun k => match k with
  | _ => ("", "", "", false)
def tyJ10 : Nat → FieldType := fun k => match k with
  | _ => .int
abbrev wsJ100 : List Cond := u_ws RJ10 TJ10 0
theorem nmJ10 : ∀ a, a < 0 → ∀ b, b < 0 → a ≠ b → (TJ10 a).2.1 ≠ (TJ10 b).2.1 := by decide +kernel
theorem tyJ10_ok : ∀ k, k < 0 → parseFieldDescriptor (TJ10 k).2.2.1 = some (tyJ10 k) := by decide +kernel
def RJxa1e45 : String := "java/util/AbstractCollection"
def TJxa1e45 : u_T := fun k => match k with
  | _ => ("", "", "", false)
def tyJxa1e45 : Nat → FieldType := fun k => match k with
  | _ => .int
abbrev wsJxa1e450 : List Cond := u_ws RJxa1e45 TJxa1e45 0
theorem nmJxa1e45 : ∀ a, a < 0 → ∀ b, b < 0 → a ≠ b → (TJxa1e45 a).2.1 ≠ (TJxa1e45 b).2.1 := by decide +kernel
theorem tyJxa1e45_ok : ∀ k, k < 0 → parseFieldDescriptor (TJxa1e45 k).2.2.1 = some (tyJxa1e45 k) := by decide +kernel
abbrev cJxa1e45_init_da8c8 : ByteArray := prog_24_method_1_code
def yJxa1e45_init_da8c8 : MethodName := ⟨RJxa1e45, "<init>", "()V"⟩
def RJxc12de : String := "java/util/AbstractList"
def TJxc12de : u_T := fun k => match k with
  | _ => ("", "", "", false)
def tyJxc12de : Nat → FieldType := fun k => match k with
  | _ => .int
abbrev wsJxc12de0 : List Cond := u_ws RJxc12de TJxc12de 0
theorem nmJxc12de : ∀ a, a < 0 → ∀ b, b < 0 → a ≠ b → (TJxc12de a).2.1 ≠ (TJxc12de b).2.1 := by decide +kernel
theorem tyJxc12de_ok : ∀ k, k < 0 → parseFieldDescriptor (TJxc12de k).2.2.1 = some (tyJxc12de k) := by decide +kernel
abbrev cJxc12de_init_da8c8 : ByteArray := prog_25_method_1_code
def yJxc12de_init_da8c8 : MethodName := ⟨RJxc12de, "<init>", "()V"⟩
def RJx4a65c : String := "java/util/ArrayList"
def TJx4a65c : u_T := fun k => match k with
  | 0 => ("java/util/AbstractList", "modCount", "I", false)
  | 1 => ("java/util/ArrayList", "elementData", "[Ljava/lang/Object;", false)
  | _ => ("java/util/ArrayList", "size", "I", false)
def tyJx4a65c : Nat → FieldType := fun k => match k with
  | 0 => .int
  | 1 => .array (.object "java/lang/Object")
  | _ => .int
abbrev wsJx4a65c0 : List Cond := u_ws RJx4a65c TJx4a65c 3
theorem nmJx4a65c : ∀ a, a < 3 → ∀ b, b < 3 → a ≠ b → (TJx4a65c a).2.1 ≠ (TJx4a65c b).2.1 := by decide +kernel
theorem tyJx4a65c_ok : ∀ k, k < 3 → parseFieldDescriptor (TJx4a65c k).2.2.1 = some (tyJx4a65c k) := by decide +kernel
abbrev cJx4a65c_init_da8c8 : ByteArray := prog_26_method_2_code
def yJx4a65c_init_da8c8 : MethodName := ⟨RJx4a65c, "<init>", "()V"⟩
abbrev cJx4a65c_grow_92f84 : ByteArray := prog_26_method_6_code
def yJx4a65c_grow_92f84 : MethodName := ⟨RJx4a65c, "grow", "(I)[Ljava/lang/Object;"⟩
abbrev cJx4a65c_grow_d5877 : ByteArray := prog_26_method_7_code
def yJx4a65c_grow_d5877 : MethodName := ⟨RJx4a65c, "grow", "()[Ljava/lang/Object;"⟩
abbrev cJx4a65c_size_8abf5 : ByteArray := prog_26_method_8_code
def yJx4a65c_size_8abf5 : MethodName := ⟨RJx4a65c, "size", "()I"⟩
abbrev cJx4a65c_elementData_915e3 : ByteArray := prog_26_method_18_code
def yJx4a65c_elementData_915e3 : MethodName := ⟨RJx4a65c, "elementData", "(I)Ljava/lang/Object;"⟩
abbrev cJx4a65c_get_915e3 : ByteArray := prog_26_method_20_code
def yJx4a65c_get_915e3 : MethodName := ⟨RJx4a65c, "get", "(I)Ljava/lang/Object;"⟩
abbrev cJx4a65c_set_bcc79 : ByteArray := prog_26_method_23_code
def yJx4a65c_set_bcc79 : MethodName := ⟨RJx4a65c, "set", "(ILjava/lang/Object;)Ljava/lang/Object;"⟩
abbrev cJx4a65c_add_72be8 : ByteArray := prog_26_method_24_code
def yJx4a65c_add_72be8 : MethodName := ⟨RJx4a65c, "add", "(Ljava/lang/Object;[Ljava/lang/Object;I)V"⟩
abbrev cJx4a65c_add_9ea2d : ByteArray := prog_26_method_25_code
def yJx4a65c_add_9ea2d : MethodName := ⟨RJx4a65c, "add", "(Ljava/lang/Object;)Z"⟩
abbrev cJx4a65c_remove_915e3 : ByteArray := prog_26_method_29_code
def yJx4a65c_remove_915e3 : MethodName := ⟨RJx4a65c, "remove", "(I)Ljava/lang/Object;"⟩
abbrev cJx4a65c_fastRemove_b59b0 : ByteArray := prog_26_method_39_code
def yJx4a65c_fastRemove_b59b0 : MethodName := ⟨RJx4a65c, "fastRemove", "([Ljava/lang/Object;I)V"⟩
abbrev cJx4a65c_clear_da8c8 : ByteArray := prog_26_method_40_code
def yJx4a65c_clear_da8c8 : MethodName := ⟨RJx4a65c, "clear", "()V"⟩
def RJ7 : String := "java/util/Arrays"
def TJ7 : u_T := fun k => match k with
  | _ => ("", "", "", false)
def tyJ7 : Nat → FieldType := fun k => match k with
  | _ => .int
abbrev wsJ70 : List Cond := u_ws RJ7 TJ7 0
theorem nmJ7 : ∀ a, a < 0 → ∀ b, b < 0 → a ≠ b → (TJ7 a).2.1 ≠ (TJ7 b).2.1 := by decide +kernel
theorem tyJ7_ok : ∀ k, k < 0 → parseFieldDescriptor (TJ7 k).2.2.1 = some (tyJ7 k) := by decide +kernel
abbrev cJ7_copyOf_1904c : ByteArray := prog_27_method_119_code
def yJ7_copyOf_1904c : MethodName := ⟨RJ7, "copyOf", "([Ljava/lang/Object;I)[Ljava/lang/Object;"⟩
abbrev cJ7_copyOf_6403c : ByteArray := prog_27_method_120_code
def yJ7_copyOf_6403c : MethodName := ⟨RJ7, "copyOf", "([Ljava/lang/Object;ILjava/lang/Class;)[Ljava/lang/Object;"⟩
def RJx5ef63 : String := "java/util/Collection"
def TJx5ef63 : u_T := fun k => match k with
  | _ => ("", "", "", false)
def tyJx5ef63 : Nat → FieldType := fun k => match k with
  | _ => .int
abbrev wsJx5ef630 : List Cond := u_ws RJx5ef63 TJx5ef63 0
theorem nmJx5ef63 : ∀ a, a < 0 → ∀ b, b < 0 → a ≠ b → (TJx5ef63 a).2.1 ≠ (TJx5ef63 b).2.1 := by decide +kernel
theorem tyJx5ef63_ok : ∀ k, k < 0 → parseFieldDescriptor (TJx5ef63 k).2.2.1 = some (tyJx5ef63 k) := by decide +kernel
def RJxbd725 : String := "java/util/List"
def TJxbd725 : u_T := fun k => match k with
  | _ => ("", "", "", false)
def tyJxbd725 : Nat → FieldType := fun k => match k with
  | _ => .int
abbrev wsJxbd7250 : List Cond := u_ws RJxbd725 TJxbd725 0
theorem nmJxbd725 : ∀ a, a < 0 → ∀ b, b < 0 → a ≠ b → (TJxbd725 a).2.1 ≠ (TJxbd725 b).2.1 := by decide +kernel
theorem tyJxbd725_ok : ∀ k, k < 0 → parseFieldDescriptor (TJxbd725 k).2.2.1 = some (tyJxbd725 k) := by decide +kernel
def RJ15 : String := "java/util/Objects"
def TJ15 : u_T := fun k => match k with
  | _ => ("", "", "", false)
def tyJ15 : Nat → FieldType := fun k => match k with
  | _ => .int
abbrev wsJ150 : List Cond := u_ws RJ15 TJ15 0
theorem nmJ15 : ∀ a, a < 0 → ∀ b, b < 0 → a ≠ b → (TJ15 a).2.1 ≠ (TJ15 b).2.1 := by decide +kernel
theorem tyJ15_ok : ∀ k, k < 0 → parseFieldDescriptor (TJ15 k).2.2.1 = some (tyJ15 k) := by decide +kernel
abbrev cJ15_checkIndex_7cf53 : ByteArray := prog_30_method_17_code
def yJ15_checkIndex_7cf53 : MethodName := ⟨RJ15, "checkIndex", "(II)I"⟩
def RJxf0a74 : String := "java/util/RandomAccess"
def TJxf0a74 : u_T := fun k => match k with
  | _ => ("", "", "", false)
def tyJxf0a74 : Nat → FieldType := fun k => match k with
  | _ => .int
abbrev wsJxf0a740 : List Cond := u_ws RJxf0a74 TJxf0a74 0
theorem nmJxf0a74 : ∀ a, a < 0 → ∀ b, b < 0 → a ≠ b → (TJxf0a74 a).2.1 ≠ (TJxf0a74 b).2.1 := by decide +kernel
theorem tyJxf0a74_ok : ∀ k, k < 0 → parseFieldDescriptor (TJxf0a74 k).2.2.1 = some (tyJxf0a74 k) := by decide +kernel
def RJxa66e6 : String := "java/util/SequencedCollection"
def TJxa66e6 : u_T := fun k => match k with
  | _ => ("", "", "", false)
def tyJxa66e6 : Nat → FieldType := fun k => match k with
  | _ => .int
abbrev wsJxa66e60 : List Cond := u_ws RJxa66e6 TJxa66e6 0
theorem nmJxa66e6 : ∀ a, a < 0 → ∀ b, b < 0 → a ≠ b → (TJxa66e6 a).2.1 ≠ (TJxa66e6 b).2.1 := by decide +kernel
theorem tyJxa66e6_ok : ∀ k, k < 0 → parseFieldDescriptor (TJxa66e6 k).2.2.1 = some (tyJxa66e6 k) := by decide +kernel
def RJ8 : String := "jdk/internal/util/ArraysSupport"
def TJ8 : u_T := fun k => match k with
  | _ => ("", "", "", false)
def tyJ8 : Nat → FieldType := fun k => match k with
  | _ => .int
abbrev wsJ80 : List Cond := u_ws RJ8 TJ8 0
theorem nmJ8 : ∀ a, a < 0 → ∀ b, b < 0 → a ≠ b → (TJ8 a).2.1 ≠ (TJ8 b).2.1 := by decide +kernel
theorem tyJ8_ok : ∀ k, k < 0 → parseFieldDescriptor (TJ8 k).2.2.1 = some (tyJ8 k) := by decide +kernel
abbrev cJ8_newLength_cabcc : ByteArray := prog_33_method_27_code
def yJ8_newLength_cabcc : MethodName := ⟨RJ8, "newLength", "(III)I"⟩
abbrev cJ8_hugeLength_7cf53 : ByteArray := prog_33_method_28_code
def yJ8_hugeLength_7cf53 : MethodName := ⟨RJ8, "hugeLength", "(II)I"⟩
def RJ3 : String := "jdk/internal/util/Preconditions"
def TJ3 : u_T := fun k => match k with
  | _ => ("", "", "", false)
def tyJ3 : Nat → FieldType := fun k => match k with
  | _ => .int
abbrev wsJ30 : List Cond := u_ws RJ3 TJ3 0
theorem nmJ3 : ∀ a, a < 0 → ∀ b, b < 0 → a ≠ b → (TJ3 a).2.1 ≠ (TJ3 b).2.1 := by decide +kernel
theorem tyJ3_ok : ∀ k, k < 0 → parseFieldDescriptor (TJ3 k).2.2.1 = some (tyJ3 k) := by decide +kernel
abbrev cJ3_checkIndex_8e157 : ByteArray := prog_34_method_11_code
def yJ3_checkIndex_8e157 : MethodName := ⟨RJ3, "checkIndex", "(IILjava/util/function/BiFunction;)I"⟩
def RL : String := "LeaseGatesLaw"
abbrev cL_key : ByteArray := method_3_code
def yL_key : MethodName := ⟨RL, "key", "(LLeaseGates;III)I"⟩
abbrev cL_length : ByteArray := method_4_code
def yL_length : MethodName := ⟨RL, "length", "(LLeaseGates;I)I"⟩
abbrev cL_weight : ByteArray := method_5_code
def yL_weight : MethodName := ⟨RL, "weight", "(LLeaseGates;III)I"⟩
abbrev cL_speed : ByteArray := method_6_code
def yL_speed : MethodName := ⟨RL, "speed", "(LLeaseGates;II)I"⟩
abbrev cL_take : ByteArray := method_7_code
def yL_take : MethodName := ⟨RL, "take", "(LLeaseGates;III[J)I"⟩
abbrev cL_work : ByteArray := method_8_code
def yL_work : MethodName := ⟨RL, "work", "(LLeaseGates;I[J)I"⟩
abbrev cL_carry : ByteArray := method_9_code
def yL_carry : MethodName := ⟨RL, "carry", "(LLeaseGates;I[J)I"⟩
abbrev cL_drop : ByteArray := method_10_code
def yL_drop : MethodName := ⟨RL, "drop", "(LLeaseGates;I)I"⟩
abbrev cL_tick : ByteArray := method_11_code
def yL_tick : MethodName := ⟨RL, "tick", "(LLeaseGates;I)I"⟩
abbrev cL_restart : ByteArray := method_12_code
def yL_restart : MethodName := ⟨RL, "restart", "(LLeaseGates;I[J)I"⟩
abbrev cL_root : ByteArray := method_13_code
def yL_root : MethodName := ⟨RL, "root", "(LLeaseGates;II[J)I"⟩
abbrev cL_gate : ByteArray := method_14_code
def yL_gate : MethodName := ⟨RL, "gate", "(LLeaseGates;III[J)I"⟩
abbrev cL_message : ByteArray := method_15_code
def yL_message : MethodName := ⟨RL, "message", "(LLeaseGates;II[J)I"⟩
abbrev cL_clock : ByteArray := method_16_code
def yL_clock : MethodName := ⟨RL, "clock", "(LLeaseGates;I[J)I"⟩
abbrev cL_law : ByteArray := code
def yL_law : MethodName := ⟨RL, "law", "([I)Z"⟩
def wsX0_init : List Cond := .code yX0_init cX0_init 1 none :: ([.methodLink RX0 1 objectInit, .instanceMethod objectInit, .code objectInit ⟨#[0xb1]⟩ 1 none, .fieldLink RX0 7 "LeaseGates$Account" "share" "I"] ++ wsX00)
def wsX0_askedOfLate : List Cond := .code yX0_askedOfLate cX0_askedOfLate 2 (some .boolean) :: ([.fieldLink RX0 13 "LeaseGates$Account" "asked" "Z", .fieldLink RX0 17 "LeaseGates$Account" "askedAt" "I"] ++ wsX00)
def wsJxa1e45_init_da8c8 : List Cond := .code yJxa1e45_init_da8c8 cJxa1e45_init_da8c8 1 none :: ([.methodLink RJxa1e45 1 objectInit, .instanceMethod objectInit, .code objectInit ⟨#[0xb1]⟩ 1 none])
def wsJxc12de_init_da8c8 : List Cond := .code yJxc12de_init_da8c8 cJxc12de_init_da8c8 1 none :: ([.fieldLink RJxc12de 7 "java/util/AbstractList" "modCount" "I", .methodLink RJxc12de 1 yJxa1e45_init_da8c8, .instanceMethod yJxa1e45_init_da8c8, .initialized RJxa1e45, .code yJxa1e45_init_da8c8 cJxa1e45_init_da8c8 1 none, .methodLink RJxa1e45 1 objectInit, .instanceMethod objectInit, .code objectInit ⟨#[0xb1]⟩ 1 none] ++ wsJx4a65c0)
def wsJx4a65c_init_da8c8 : List Cond := .code yJx4a65c_init_da8c8 cJx4a65c_init_da8c8 1 none :: ([.fieldLink RJx4a65c 39 "java/util/ArrayList" "DEFAULTCAPACITY_EMPTY_ELEMENTDATA" "[Ljava/lang/Object;", .fieldLink RJx4a65c 9 "java/util/ArrayList" "elementData" "[Ljava/lang/Object;", .methodLink RJx4a65c 1 yJxc12de_init_da8c8, .instanceMethod yJxc12de_init_da8c8, .initialized RJxc12de, .code yJxc12de_init_da8c8 cJxc12de_init_da8c8 1 none, .fieldLink RJxc12de 7 "java/util/AbstractList" "modCount" "I", .methodLink RJxc12de 1 yJxa1e45_init_da8c8, .instanceMethod yJxa1e45_init_da8c8, .initialized RJxa1e45, .code yJxa1e45_init_da8c8 cJxa1e45_init_da8c8 1 none, .methodLink RJxa1e45 1 objectInit, .instanceMethod objectInit, .code objectInit ⟨#[0xb1]⟩ 1 none] ++ wsJx4a65c0)
def wsX1_init : List Cond := .code yX1_init cX1_init 1 none :: ([.methodLink RX1 3 objectInit, .instanceMethod objectInit, .code objectInit ⟨#[0xb1]⟩ 1 none, .classLink RX1 9 RJx4a65c, .instantiable RJx4a65c 3, .initialized RJx4a65c, .fieldLink RX1 12 "LeaseGates$Bucket" "loans" "Ljava/util/ArrayList;", .methodLink RX1 11 yJx4a65c_init_da8c8, .instanceMethod yJx4a65c_init_da8c8, .code yJx4a65c_init_da8c8 cJx4a65c_init_da8c8 1 none, .fieldLink RJx4a65c 39 "java/util/ArrayList" "DEFAULTCAPACITY_EMPTY_ELEMENTDATA" "[Ljava/lang/Object;", .fieldLink RJx4a65c 9 "java/util/ArrayList" "elementData" "[Ljava/lang/Object;", .methodLink RJx4a65c 1 yJxc12de_init_da8c8, .instanceMethod yJxc12de_init_da8c8, .initialized RJxc12de, .code yJxc12de_init_da8c8 cJxc12de_init_da8c8 1 none, .fieldLink RJxc12de 7 "java/util/AbstractList" "modCount" "I", .methodLink RJxc12de 1 yJxa1e45_init_da8c8, .instanceMethod yJxa1e45_init_da8c8, .initialized RJxa1e45, .code yJxa1e45_init_da8c8 cJxa1e45_init_da8c8 1 none, .methodLink RJxa1e45 1 objectInit] ++ wsJx4a65c0 ++ wsX10)
def wsX1_fill : List Cond := .code yX1_fill cX1_fill 5 none :: ([.constantLong RX1 29 (1000), .fieldLink RX1 22 "LeaseGates$Bucket" "burst" "I", .fieldLink RX1 31 "LeaseGates$Bucket" "lent" "I", .methodLink RX1 34 Lib.MathLoose.max_long.x, .static Lib.MathLoose.max_long.x, .initialized "java/lang/Math", .code Lib.MathLoose.max_long.x Lib.MathLoose.max_long.code 4 (some .long), .fieldLink RX1 40 "LeaseGates$Bucket" "level" "I", .methodLink RX1 43 Lib.MathLoose.min_long.x, .static Lib.MathLoose.min_long.x, .code Lib.MathLoose.min_long.x Lib.MathLoose.min_long.code 4 (some .long)] ++ wsX10)
def wsX1_reshape : List Cond := .code yX1_reshape cX1_reshape 3 none :: ([.fieldLink RX1 18 "LeaseGates$Bucket" "rate" "I", .fieldLink RX1 22 "LeaseGates$Bucket" "burst" "I", .methodLink RX1 25 yX1_fill, .instanceMethod yX1_fill, .selects RX1 yX1_fill yX1_fill, .initialized RX1, .code yX1_fill cX1_fill 5 none, .constantLong RX1 29 (1000), .fieldLink RX1 31 "LeaseGates$Bucket" "lent" "I", .methodLink RX1 34 Lib.MathLoose.max_long.x, .static Lib.MathLoose.max_long.x, .initialized "java/lang/Math", .code Lib.MathLoose.max_long.x Lib.MathLoose.max_long.code 4 (some .long), .fieldLink RX1 40 "LeaseGates$Bucket" "level" "I", .methodLink RX1 43 Lib.MathLoose.min_long.x, .static Lib.MathLoose.min_long.x, .code Lib.MathLoose.min_long.x Lib.MathLoose.min_long.code 4 (some .long)] ++ wsX10)
def wsJx4a65c_size_8abf5 : List Cond := .code yJx4a65c_size_8abf5 cJx4a65c_size_8abf5 1 (some .int) :: ([.fieldLink RJx4a65c 48 "java/util/ArrayList" "size" "I"] ++ wsJx4a65c0)
def wsJ3_checkIndex_8e157 : List Cond := .code yJ3_checkIndex_8e157 cJ3_checkIndex_8e157 3 (some .int) :: ([])
def wsJ15_checkIndex_7cf53 : List Cond := .code yJ15_checkIndex_7cf53 cJ15_checkIndex_7cf53 2 (some .int) :: ([.methodLink RJ15 105 yJ3_checkIndex_8e157, .static yJ3_checkIndex_8e157, .initialized RJ3, .code yJ3_checkIndex_8e157 cJ3_checkIndex_8e157 3 (some .int)])
def wsJx4a65c_elementData_915e3 : List Cond := .code yJx4a65c_elementData_915e3 cJx4a65c_elementData_915e3 2 (some (.object "java/lang/Object")) :: ([.fieldLink RJx4a65c 9 "java/util/ArrayList" "elementData" "[Ljava/lang/Object;"] ++ wsJx4a65c0)
def wsJx4a65c_get_915e3 : List Cond := .code yJx4a65c_get_915e3 cJx4a65c_get_915e3 2 (some (.object "java/lang/Object")) :: ([.fieldLink RJx4a65c 48 "java/util/ArrayList" "size" "I", .methodLink RJx4a65c 118 yJ15_checkIndex_7cf53, .static yJ15_checkIndex_7cf53, .initialized RJ15, .code yJ15_checkIndex_7cf53 cJ15_checkIndex_7cf53 2 (some .int), .methodLink RJ15 105 yJ3_checkIndex_8e157, .static yJ3_checkIndex_8e157, .initialized RJ3, .code yJ3_checkIndex_8e157 cJ3_checkIndex_8e157 3 (some .int), .methodLink RJx4a65c 123 yJx4a65c_elementData_915e3, .instanceMethod yJx4a65c_elementData_915e3, .selects RJx4a65c yJx4a65c_elementData_915e3 yJx4a65c_elementData_915e3, .initialized RJx4a65c, .code yJx4a65c_elementData_915e3 cJx4a65c_elementData_915e3 2 (some (.object "java/lang/Object")), .fieldLink RJx4a65c 9 "java/util/ArrayList" "elementData" "[Ljava/lang/Object;"] ++ wsJx4a65c0)
def wsX1_loanThatEndsFirst_r1 : List Cond := [Cond.fieldLink RX1 12 "LeaseGates$Bucket" "loans" "Ljava/util/ArrayList;", Cond.classLink RX1 57 "LeaseGates$Loan", Cond.fieldLink RX1 59 "LeaseGates$Loan" "end" "I", Cond.methodLink RX1 46 yJx4a65c_size_8abf5, Cond.instanceMethod yJx4a65c_size_8abf5, Cond.selects RJx4a65c yJx4a65c_size_8abf5 yJx4a65c_size_8abf5, Cond.initialized RJx4a65c, Cond.code yJx4a65c_size_8abf5 cJx4a65c_size_8abf5 1 (some .int), Cond.fieldLink RJx4a65c 48 "java/util/ArrayList" "size" "I", Cond.methodLink RX1 53 yJx4a65c_get_915e3, Cond.instanceMethod yJx4a65c_get_915e3, Cond.selects RJx4a65c yJx4a65c_get_915e3 yJx4a65c_get_915e3, Cond.code yJx4a65c_get_915e3 cJx4a65c_get_915e3 2 (some (.object "java/lang/Object")), Cond.methodLink RJx4a65c 118 yJ15_checkIndex_7cf53, Cond.static yJ15_checkIndex_7cf53, Cond.initialized RJ15, Cond.code yJ15_checkIndex_7cf53 cJ15_checkIndex_7cf53 2 (some .int), Cond.methodLink RJ15 105 yJ3_checkIndex_8e157, Cond.static yJ3_checkIndex_8e157, Cond.initialized RJ3, Cond.code yJ3_checkIndex_8e157 cJ3_checkIndex_8e157 3 (some .int), Cond.methodLink RJx4a65c 123 yJx4a65c_elementData_915e3, Cond.instanceMethod yJx4a65c_elementData_915e3, Cond.selects RJx4a65c yJx4a65c_elementData_915e3 yJx4a65c_elementData_915e3]
def wsX1_loanThatEndsFirst_r2 : List Cond := [Cond.code yJx4a65c_elementData_915e3 cJx4a65c_elementData_915e3 2 (some (.object "java/lang/Object")), Cond.fieldLink RJx4a65c 9 "java/util/ArrayList" "elementData" "[Ljava/lang/Object;"]
def wsX1_loanThatEndsFirst : List Cond := .code yX1_loanThatEndsFirst cX1_loanThatEndsFirst 3 (some .int) :: ((wsX1_loanThatEndsFirst_r1 ++ wsX1_loanThatEndsFirst_r2) ++ wsX10 ++ wsX50 ++ wsJx4a65c0)
def wsJx4a65c_fastRemove_b59b0 : List Cond := .code yJx4a65c_fastRemove_b59b0 cJx4a65c_fastRemove_b59b0 4 none :: ([.fieldLink RJx4a65c 63 "java/util/ArrayList" "modCount" "I", .sameField "java/util/ArrayList" "java/util/AbstractList" "modCount" "I", .fieldLink RJx4a65c 48 "java/util/ArrayList" "size" "I", .methodLink RJx4a65c 112 arraycopyName, .native arraycopyName, .static arraycopyName, .initialized "java/lang/System"] ++ wsJx4a65c0)
def wsJx4a65c_remove_915e3 : List Cond := .code yJx4a65c_remove_915e3 cJx4a65c_remove_915e3 4 (some (.object "java/lang/Object")) :: ([.fieldLink RJx4a65c 48 "java/util/ArrayList" "size" "I", .fieldLink RJx4a65c 9 "java/util/ArrayList" "elementData" "[Ljava/lang/Object;", .methodLink RJx4a65c 118 yJ15_checkIndex_7cf53, .static yJ15_checkIndex_7cf53, .initialized RJ15, .code yJ15_checkIndex_7cf53 cJ15_checkIndex_7cf53 2 (some .int), .methodLink RJ15 105 yJ3_checkIndex_8e157, .static yJ3_checkIndex_8e157, .initialized RJ3, .code yJ3_checkIndex_8e157 cJ3_checkIndex_8e157 3 (some .int), .methodLink RJx4a65c 144 yJx4a65c_fastRemove_b59b0, .instanceMethod yJx4a65c_fastRemove_b59b0, .selects RJx4a65c yJx4a65c_fastRemove_b59b0 yJx4a65c_fastRemove_b59b0, .initialized RJx4a65c, .code yJx4a65c_fastRemove_b59b0 cJx4a65c_fastRemove_b59b0 4 none, .fieldLink RJx4a65c 63 "java/util/ArrayList" "modCount" "I", .sameField "java/util/ArrayList" "java/util/AbstractList" "modCount" "I", .methodLink RJx4a65c 112 arraycopyName, .native arraycopyName, .static arraycopyName, .initialized "java/lang/System"] ++ wsJx4a65c0)
def wsX1_close_r1 : List Cond := [Cond.fieldLink RX1 31 "LeaseGates$Bucket" "lent" "I", Cond.fieldLink RX1 12 "LeaseGates$Bucket" "loans" "Ljava/util/ArrayList;", Cond.classLink RX1 57 "LeaseGates$Loan", Cond.fieldLink RX1 66 "LeaseGates$Loan" "tokens" "I", Cond.methodLink RX1 53 yJx4a65c_get_915e3, Cond.instanceMethod yJx4a65c_get_915e3, Cond.selects RJx4a65c yJx4a65c_get_915e3 yJx4a65c_get_915e3, Cond.initialized RJx4a65c, Cond.code yJx4a65c_get_915e3 cJx4a65c_get_915e3 2 (some (.object "java/lang/Object")), Cond.fieldLink RJx4a65c 48 "java/util/ArrayList" "size" "I", Cond.methodLink RJx4a65c 118 yJ15_checkIndex_7cf53, Cond.static yJ15_checkIndex_7cf53, Cond.initialized RJ15, Cond.code yJ15_checkIndex_7cf53 cJ15_checkIndex_7cf53 2 (some .int), Cond.methodLink RJ15 105 yJ3_checkIndex_8e157, Cond.static yJ3_checkIndex_8e157, Cond.initialized RJ3, Cond.code yJ3_checkIndex_8e157 cJ3_checkIndex_8e157 3 (some .int), Cond.methodLink RJx4a65c 123 yJx4a65c_elementData_915e3, Cond.instanceMethod yJx4a65c_elementData_915e3, Cond.selects RJx4a65c yJx4a65c_elementData_915e3 yJx4a65c_elementData_915e3, Cond.code yJx4a65c_elementData_915e3 cJx4a65c_elementData_915e3 2 (some (.object "java/lang/Object")), Cond.fieldLink RJx4a65c 9 "java/util/ArrayList" "elementData" "[Ljava/lang/Object;", Cond.methodLink RX1 69 yJx4a65c_remove_915e3]
def wsX1_close_r2 : List Cond := [Cond.instanceMethod yJx4a65c_remove_915e3, Cond.selects RJx4a65c yJx4a65c_remove_915e3 yJx4a65c_remove_915e3, Cond.code yJx4a65c_remove_915e3 cJx4a65c_remove_915e3 4 (some (.object "java/lang/Object")), Cond.methodLink RJx4a65c 144 yJx4a65c_fastRemove_b59b0, Cond.instanceMethod yJx4a65c_fastRemove_b59b0, Cond.selects RJx4a65c yJx4a65c_fastRemove_b59b0 yJx4a65c_fastRemove_b59b0, Cond.code yJx4a65c_fastRemove_b59b0 cJx4a65c_fastRemove_b59b0 4 none, Cond.fieldLink RJx4a65c 63 "java/util/ArrayList" "modCount" "I", Cond.sameField "java/util/ArrayList" "java/util/AbstractList" "modCount" "I", Cond.methodLink RJx4a65c 112 arraycopyName, Cond.native arraycopyName, Cond.static arraycopyName, Cond.initialized "java/lang/System"]
def wsX1_close : List Cond := .code yX1_close cX1_close 2 none :: ((wsX1_close_r1 ++ wsX1_close_r2) ++ wsX10 ++ wsX50 ++ wsJx4a65c0)
def wsX1_pass_r1 : List Cond := [Cond.fieldLink RX1 12 "LeaseGates$Bucket" "loans" "Ljava/util/ArrayList;", Cond.classLink RX1 57 "LeaseGates$Loan", Cond.fieldLink RX1 59 "LeaseGates$Loan" "end" "I", Cond.fieldLink RX1 18 "LeaseGates$Bucket" "rate" "I", Cond.methodLink RX1 46 yJx4a65c_size_8abf5, Cond.instanceMethod yJx4a65c_size_8abf5, Cond.selects RJx4a65c yJx4a65c_size_8abf5 yJx4a65c_size_8abf5, Cond.initialized RJx4a65c, Cond.code yJx4a65c_size_8abf5 cJx4a65c_size_8abf5 1 (some .int), Cond.fieldLink RJx4a65c 48 "java/util/ArrayList" "size" "I", Cond.methodLink RX1 50 yX1_loanThatEndsFirst, Cond.instanceMethod yX1_loanThatEndsFirst, Cond.selects RX1 yX1_loanThatEndsFirst yX1_loanThatEndsFirst, Cond.initialized RX1, Cond.code yX1_loanThatEndsFirst cX1_loanThatEndsFirst 3 (some .int), Cond.methodLink RX1 53 yJx4a65c_get_915e3, Cond.instanceMethod yJx4a65c_get_915e3, Cond.selects RJx4a65c yJx4a65c_get_915e3 yJx4a65c_get_915e3, Cond.code yJx4a65c_get_915e3 cJx4a65c_get_915e3 2 (some (.object "java/lang/Object")), Cond.methodLink RJx4a65c 118 yJ15_checkIndex_7cf53, Cond.static yJ15_checkIndex_7cf53, Cond.initialized RJ15, Cond.code yJ15_checkIndex_7cf53 cJ15_checkIndex_7cf53 2 (some .int), Cond.methodLink RJ15 105 yJ3_checkIndex_8e157]
def wsX1_pass_r2 : List Cond := [Cond.static yJ3_checkIndex_8e157, Cond.initialized RJ3, Cond.code yJ3_checkIndex_8e157 cJ3_checkIndex_8e157 3 (some .int), Cond.methodLink RJx4a65c 123 yJx4a65c_elementData_915e3, Cond.instanceMethod yJx4a65c_elementData_915e3, Cond.selects RJx4a65c yJx4a65c_elementData_915e3 yJx4a65c_elementData_915e3, Cond.code yJx4a65c_elementData_915e3 cJx4a65c_elementData_915e3 2 (some (.object "java/lang/Object")), Cond.fieldLink RJx4a65c 9 "java/util/ArrayList" "elementData" "[Ljava/lang/Object;", Cond.methodLink RX1 25 yX1_fill, Cond.instanceMethod yX1_fill, Cond.selects RX1 yX1_fill yX1_fill, Cond.code yX1_fill cX1_fill 5 none, Cond.constantLong RX1 29 (1000), Cond.fieldLink RX1 22 "LeaseGates$Bucket" "burst" "I", Cond.fieldLink RX1 31 "LeaseGates$Bucket" "lent" "I", Cond.methodLink RX1 34 Lib.MathLoose.max_long.x, Cond.static Lib.MathLoose.max_long.x, Cond.initialized "java/lang/Math", Cond.code Lib.MathLoose.max_long.x Lib.MathLoose.max_long.code 4 (some .long), Cond.fieldLink RX1 40 "LeaseGates$Bucket" "level" "I", Cond.methodLink RX1 43 Lib.MathLoose.min_long.x, Cond.static Lib.MathLoose.min_long.x, Cond.code Lib.MathLoose.min_long.x Lib.MathLoose.min_long.code 4 (some .long), Cond.methodLink RX1 62 yX1_close]
def wsX1_pass_r3 : List Cond := [Cond.instanceMethod yX1_close, Cond.selects RX1 yX1_close yX1_close, Cond.code yX1_close cX1_close 2 none, Cond.fieldLink RX1 66 "LeaseGates$Loan" "tokens" "I", Cond.methodLink RX1 69 yJx4a65c_remove_915e3, Cond.instanceMethod yJx4a65c_remove_915e3, Cond.selects RJx4a65c yJx4a65c_remove_915e3 yJx4a65c_remove_915e3, Cond.code yJx4a65c_remove_915e3 cJx4a65c_remove_915e3 4 (some (.object "java/lang/Object")), Cond.methodLink RJx4a65c 144 yJx4a65c_fastRemove_b59b0, Cond.instanceMethod yJx4a65c_fastRemove_b59b0, Cond.selects RJx4a65c yJx4a65c_fastRemove_b59b0 yJx4a65c_fastRemove_b59b0, Cond.code yJx4a65c_fastRemove_b59b0 cJx4a65c_fastRemove_b59b0 4 none, Cond.fieldLink RJx4a65c 63 "java/util/ArrayList" "modCount" "I", Cond.sameField "java/util/ArrayList" "java/util/AbstractList" "modCount" "I", Cond.methodLink RJx4a65c 112 arraycopyName, Cond.native arraycopyName, Cond.static arraycopyName, Cond.initialized "java/lang/System"]
def wsX1_pass : List Cond := .code yX1_pass cX1_pass 7 none :: ((wsX1_pass_r1 ++ (wsX1_pass_r2 ++ wsX1_pass_r3)) ++ wsX10 ++ wsX50 ++ wsJx4a65c0)
def wsX1_free : List Cond := .code yX1_free cX1_free 1 (some .int) :: ([.fieldLink RX1 40 "LeaseGates$Bucket" "level" "I"] ++ wsX10)
def wsX5_init : List Cond := .code yX5_init cX5_init 4 none :: ([.methodLink RX5 1 objectInit, .instanceMethod objectInit, .code objectInit ⟨#[0xb1]⟩ 1 none, .fieldLink RX5 7 "LeaseGates$Loan" "number" "I", .fieldLink RX5 13 "LeaseGates$Loan" "tokens" "I", .fieldLink RX5 16 "LeaseGates$Loan" "end" "I"] ++ wsX50)
def wsJ8_hugeLength_7cf53 : List Cond := .code yJ8_hugeLength_7cf53 cJ8_hugeLength_7cf53 3 (some .int) :: ([.constant RJ8 200 (2147483639)])
def wsJ8_newLength_cabcc : List Cond := .code yJ8_newLength_cabcc cJ8_newLength_cabcc 4 (some .int) :: ([.methodLink RJ8 194 Lib.Math.max.name, .static Lib.Math.max.name, .initialized "java/lang/Math", .code Lib.Math.max.name Lib.Math.max.code 2 (some .int), .constant RJ8 200 (2147483639), .methodLink RJ8 201 yJ8_hugeLength_7cf53, .static yJ8_hugeLength_7cf53, .initialized RJ8, .code yJ8_hugeLength_7cf53 cJ8_hugeLength_7cf53 3 (some .int)])
def wsJ7_copyOf_6403c : List Cond := .code yJ7_copyOf_6403c cJ7_copyOf_6403c 4 (some (.array (.object "java/lang/Object"))) :: ([.classLink RJ7 110 "[Ljava/lang/Object;", .classLink RJ7 2 "java/lang/Object", .methodLink RJ7 304 Lib.Math.min.name, .static Lib.Math.min.name, .initialized "java/lang/Math", .code Lib.Math.min.name Lib.Math.min.code 2 (some .int), .methodLink RJ7 150 arraycopyName, .native arraycopyName, .static arraycopyName, .initialized "java/lang/System"])
def wsJ7_copyOf_1904c : List Cond := .code yJ7_copyOf_1904c cJ7_copyOf_1904c 2 (some (.array (.object "java/lang/Object"))) :: ([.methodLink RJ7 86 ⟨"java/lang/Object", "getClass", "()Ljava/lang/Class;"⟩, .selects "[Ljava/lang/Object;" ⟨"java/lang/Object", "getClass", "()Ljava/lang/Class;"⟩ ⟨"java/lang/Object", "getClass", "()Ljava/lang/Class;"⟩, .instanceMethod ⟨"java/lang/Object", "getClass", "()Ljava/lang/Class;"⟩, .native ⟨"java/lang/Object", "getClass", "()Ljava/lang/Class;"⟩, .methodLink RJ7 300 yJ7_copyOf_6403c, .static yJ7_copyOf_6403c, .initialized RJ7, .code yJ7_copyOf_6403c cJ7_copyOf_6403c 4 (some (.array (.object "java/lang/Object"))), .classLink RJ7 110 "[Ljava/lang/Object;", .classLink RJ7 2 "java/lang/Object", .methodLink RJ7 304 Lib.Math.min.name, .static Lib.Math.min.name, .initialized "java/lang/Math", .code Lib.Math.min.name Lib.Math.min.code 2 (some .int), .methodLink RJ7 150 arraycopyName, .native arraycopyName, .static arraycopyName, .initialized "java/lang/System"])
def wsJx4a65c_grow_92f84_r1 : List Cond := [Cond.fieldLink RJx4a65c 9 "java/util/ArrayList" "elementData" "[Ljava/lang/Object;", Cond.fieldLink RJx4a65c 39 "java/util/ArrayList" "DEFAULTCAPACITY_EMPTY_ELEMENTDATA" "[Ljava/lang/Object;", Cond.methodLink RJx4a65c 79 Lib.Math.max.name, Cond.static Lib.Math.max.name, Cond.initialized "java/lang/Math", Cond.code Lib.Math.max.name Lib.Math.max.code 2 (some .int), Cond.classLink RJx4a65c 7 "java/lang/Object", Cond.methodLink RJx4a65c 73 yJ8_newLength_cabcc, Cond.static yJ8_newLength_cabcc, Cond.initialized RJ8, Cond.code yJ8_newLength_cabcc cJ8_newLength_cabcc 4 (some .int), Cond.methodLink RJ8 194 Lib.Math.max.name, Cond.constant RJ8 200 (2147483639), Cond.methodLink RJ8 201 yJ8_hugeLength_7cf53, Cond.static yJ8_hugeLength_7cf53, Cond.code yJ8_hugeLength_7cf53 cJ8_hugeLength_7cf53 3 (some .int), Cond.methodLink RJx4a65c 66 yJ7_copyOf_1904c, Cond.static yJ7_copyOf_1904c, Cond.initialized RJ7, Cond.code yJ7_copyOf_1904c cJ7_copyOf_1904c 2 (some (.array (.object "java/lang/Object"))), Cond.methodLink RJ7 86 ⟨"java/lang/Object", "getClass", "()Ljava/lang/Class;"⟩, Cond.selects "[Ljava/lang/Object;" ⟨"java/lang/Object", "getClass", "()Ljava/lang/Class;"⟩ ⟨"java/lang/Object", "getClass", "()Ljava/lang/Class;"⟩, Cond.instanceMethod ⟨"java/lang/Object", "getClass", "()Ljava/lang/Class;"⟩, Cond.native ⟨"java/lang/Object", "getClass", "()Ljava/lang/Class;"⟩]
def wsJx4a65c_grow_92f84_r2 : List Cond := [Cond.methodLink RJ7 300 yJ7_copyOf_6403c, Cond.static yJ7_copyOf_6403c, Cond.code yJ7_copyOf_6403c cJ7_copyOf_6403c 4 (some (.array (.object "java/lang/Object"))), Cond.classLink RJ7 110 "[Ljava/lang/Object;", Cond.classLink RJ7 2 "java/lang/Object", Cond.methodLink RJ7 304 Lib.Math.min.name, Cond.static Lib.Math.min.name, Cond.code Lib.Math.min.name Lib.Math.min.code 2 (some .int), Cond.methodLink RJ7 150 arraycopyName, Cond.native arraycopyName, Cond.static arraycopyName, Cond.initialized "java/lang/System"]
def wsJx4a65c_grow_92f84 : List Cond := .code yJx4a65c_grow_92f84 cJx4a65c_grow_92f84 4 (some (.array (.object "java/lang/Object"))) :: ((wsJx4a65c_grow_92f84_r1 ++ wsJx4a65c_grow_92f84_r2) ++ wsJx4a65c0)
def wsJx4a65c_grow_d5877_r1 : List Cond := [Cond.fieldLink RJx4a65c 48 "java/util/ArrayList" "size" "I", Cond.methodLink RJx4a65c 69 yJx4a65c_grow_92f84, Cond.instanceMethod yJx4a65c_grow_92f84, Cond.selects RJx4a65c yJx4a65c_grow_92f84 yJx4a65c_grow_92f84, Cond.initialized RJx4a65c, Cond.code yJx4a65c_grow_92f84 cJx4a65c_grow_92f84 4 (some (.array (.object "java/lang/Object"))), Cond.fieldLink RJx4a65c 9 "java/util/ArrayList" "elementData" "[Ljava/lang/Object;", Cond.fieldLink RJx4a65c 39 "java/util/ArrayList" "DEFAULTCAPACITY_EMPTY_ELEMENTDATA" "[Ljava/lang/Object;", Cond.methodLink RJx4a65c 79 Lib.Math.max.name, Cond.static Lib.Math.max.name, Cond.initialized "java/lang/Math", Cond.code Lib.Math.max.name Lib.Math.max.code 2 (some .int), Cond.classLink RJx4a65c 7 "java/lang/Object", Cond.methodLink RJx4a65c 73 yJ8_newLength_cabcc, Cond.static yJ8_newLength_cabcc, Cond.initialized RJ8, Cond.code yJ8_newLength_cabcc cJ8_newLength_cabcc 4 (some .int), Cond.methodLink RJ8 194 Lib.Math.max.name, Cond.constant RJ8 200 (2147483639), Cond.methodLink RJ8 201 yJ8_hugeLength_7cf53, Cond.static yJ8_hugeLength_7cf53, Cond.code yJ8_hugeLength_7cf53 cJ8_hugeLength_7cf53 3 (some .int), Cond.methodLink RJx4a65c 66 yJ7_copyOf_1904c, Cond.static yJ7_copyOf_1904c]
def wsJx4a65c_grow_d5877_r2 : List Cond := [Cond.initialized RJ7, Cond.code yJ7_copyOf_1904c cJ7_copyOf_1904c 2 (some (.array (.object "java/lang/Object"))), Cond.methodLink RJ7 86 ⟨"java/lang/Object", "getClass", "()Ljava/lang/Class;"⟩, Cond.selects "[Ljava/lang/Object;" ⟨"java/lang/Object", "getClass", "()Ljava/lang/Class;"⟩ ⟨"java/lang/Object", "getClass", "()Ljava/lang/Class;"⟩, Cond.instanceMethod ⟨"java/lang/Object", "getClass", "()Ljava/lang/Class;"⟩, Cond.native ⟨"java/lang/Object", "getClass", "()Ljava/lang/Class;"⟩, Cond.methodLink RJ7 300 yJ7_copyOf_6403c, Cond.static yJ7_copyOf_6403c, Cond.code yJ7_copyOf_6403c cJ7_copyOf_6403c 4 (some (.array (.object "java/lang/Object"))), Cond.classLink RJ7 110 "[Ljava/lang/Object;", Cond.classLink RJ7 2 "java/lang/Object", Cond.methodLink RJ7 304 Lib.Math.min.name, Cond.static Lib.Math.min.name, Cond.code Lib.Math.min.name Lib.Math.min.code 2 (some .int), Cond.methodLink RJ7 150 arraycopyName, Cond.native arraycopyName, Cond.static arraycopyName, Cond.initialized "java/lang/System"]
def wsJx4a65c_grow_d5877 : List Cond := .code yJx4a65c_grow_d5877 cJx4a65c_grow_d5877 1 (some (.array (.object "java/lang/Object"))) :: ((wsJx4a65c_grow_d5877_r1 ++ wsJx4a65c_grow_d5877_r2) ++ wsJx4a65c0)
def wsJx4a65c_add_72be8_r1 : List Cond := [Cond.fieldLink RJx4a65c 48 "java/util/ArrayList" "size" "I", Cond.methodLink RJx4a65c 129 yJx4a65c_grow_d5877, Cond.instanceMethod yJx4a65c_grow_d5877, Cond.selects RJx4a65c yJx4a65c_grow_d5877 yJx4a65c_grow_d5877, Cond.initialized RJx4a65c, Cond.code yJx4a65c_grow_d5877 cJx4a65c_grow_d5877 1 (some (.array (.object "java/lang/Object"))), Cond.methodLink RJx4a65c 69 yJx4a65c_grow_92f84, Cond.instanceMethod yJx4a65c_grow_92f84, Cond.selects RJx4a65c yJx4a65c_grow_92f84 yJx4a65c_grow_92f84, Cond.code yJx4a65c_grow_92f84 cJx4a65c_grow_92f84 4 (some (.array (.object "java/lang/Object"))), Cond.fieldLink RJx4a65c 9 "java/util/ArrayList" "elementData" "[Ljava/lang/Object;", Cond.fieldLink RJx4a65c 39 "java/util/ArrayList" "DEFAULTCAPACITY_EMPTY_ELEMENTDATA" "[Ljava/lang/Object;", Cond.methodLink RJx4a65c 79 Lib.Math.max.name, Cond.static Lib.Math.max.name, Cond.initialized "java/lang/Math", Cond.code Lib.Math.max.name Lib.Math.max.code 2 (some .int), Cond.classLink RJx4a65c 7 "java/lang/Object", Cond.methodLink RJx4a65c 73 yJ8_newLength_cabcc, Cond.static yJ8_newLength_cabcc, Cond.initialized RJ8, Cond.code yJ8_newLength_cabcc cJ8_newLength_cabcc 4 (some .int), Cond.methodLink RJ8 194 Lib.Math.max.name, Cond.constant RJ8 200 (2147483639), Cond.methodLink RJ8 201 yJ8_hugeLength_7cf53]
def wsJx4a65c_add_72be8_r2 : List Cond := [Cond.static yJ8_hugeLength_7cf53, Cond.code yJ8_hugeLength_7cf53 cJ8_hugeLength_7cf53 3 (some .int), Cond.methodLink RJx4a65c 66 yJ7_copyOf_1904c, Cond.static yJ7_copyOf_1904c, Cond.initialized RJ7, Cond.code yJ7_copyOf_1904c cJ7_copyOf_1904c 2 (some (.array (.object "java/lang/Object"))), Cond.methodLink RJ7 86 ⟨"java/lang/Object", "getClass", "()Ljava/lang/Class;"⟩, Cond.selects "[Ljava/lang/Object;" ⟨"java/lang/Object", "getClass", "()Ljava/lang/Class;"⟩ ⟨"java/lang/Object", "getClass", "()Ljava/lang/Class;"⟩, Cond.instanceMethod ⟨"java/lang/Object", "getClass", "()Ljava/lang/Class;"⟩, Cond.native ⟨"java/lang/Object", "getClass", "()Ljava/lang/Class;"⟩, Cond.methodLink RJ7 300 yJ7_copyOf_6403c, Cond.static yJ7_copyOf_6403c, Cond.code yJ7_copyOf_6403c cJ7_copyOf_6403c 4 (some (.array (.object "java/lang/Object"))), Cond.classLink RJ7 110 "[Ljava/lang/Object;", Cond.classLink RJ7 2 "java/lang/Object", Cond.methodLink RJ7 304 Lib.Math.min.name, Cond.static Lib.Math.min.name, Cond.code Lib.Math.min.name Lib.Math.min.code 2 (some .int), Cond.methodLink RJ7 150 arraycopyName, Cond.native arraycopyName, Cond.static arraycopyName, Cond.initialized "java/lang/System"]
def wsJx4a65c_add_72be8 : List Cond := .code yJx4a65c_add_72be8 cJx4a65c_add_72be8 4 none :: ((wsJx4a65c_add_72be8_r1 ++ wsJx4a65c_add_72be8_r2) ++ wsJx4a65c0)
def wsJx4a65c_add_9ea2d_r1 : List Cond := [Cond.fieldLink RJx4a65c 63 "java/util/ArrayList" "modCount" "I", Cond.sameField "java/util/ArrayList" "java/util/AbstractList" "modCount" "I", Cond.fieldLink RJx4a65c 9 "java/util/ArrayList" "elementData" "[Ljava/lang/Object;", Cond.fieldLink RJx4a65c 48 "java/util/ArrayList" "size" "I", Cond.methodLink RJx4a65c 131 yJx4a65c_add_72be8, Cond.instanceMethod yJx4a65c_add_72be8, Cond.selects RJx4a65c yJx4a65c_add_72be8 yJx4a65c_add_72be8, Cond.initialized RJx4a65c, Cond.code yJx4a65c_add_72be8 cJx4a65c_add_72be8 4 none, Cond.methodLink RJx4a65c 129 yJx4a65c_grow_d5877, Cond.instanceMethod yJx4a65c_grow_d5877, Cond.selects RJx4a65c yJx4a65c_grow_d5877 yJx4a65c_grow_d5877, Cond.code yJx4a65c_grow_d5877 cJx4a65c_grow_d5877 1 (some (.array (.object "java/lang/Object"))), Cond.methodLink RJx4a65c 69 yJx4a65c_grow_92f84, Cond.instanceMethod yJx4a65c_grow_92f84, Cond.selects RJx4a65c yJx4a65c_grow_92f84 yJx4a65c_grow_92f84, Cond.code yJx4a65c_grow_92f84 cJx4a65c_grow_92f84 4 (some (.array (.object "java/lang/Object"))), Cond.fieldLink RJx4a65c 39 "java/util/ArrayList" "DEFAULTCAPACITY_EMPTY_ELEMENTDATA" "[Ljava/lang/Object;", Cond.methodLink RJx4a65c 79 Lib.Math.max.name, Cond.static Lib.Math.max.name, Cond.initialized "java/lang/Math", Cond.code Lib.Math.max.name Lib.Math.max.code 2 (some .int), Cond.classLink RJx4a65c 7 "java/lang/Object", Cond.methodLink RJx4a65c 73 yJ8_newLength_cabcc]
def wsJx4a65c_add_9ea2d_r2 : List Cond := [Cond.static yJ8_newLength_cabcc, Cond.initialized RJ8, Cond.code yJ8_newLength_cabcc cJ8_newLength_cabcc 4 (some .int), Cond.methodLink RJ8 194 Lib.Math.max.name, Cond.constant RJ8 200 (2147483639), Cond.methodLink RJ8 201 yJ8_hugeLength_7cf53, Cond.static yJ8_hugeLength_7cf53, Cond.code yJ8_hugeLength_7cf53 cJ8_hugeLength_7cf53 3 (some .int), Cond.methodLink RJx4a65c 66 yJ7_copyOf_1904c, Cond.static yJ7_copyOf_1904c, Cond.initialized RJ7, Cond.code yJ7_copyOf_1904c cJ7_copyOf_1904c 2 (some (.array (.object "java/lang/Object"))), Cond.methodLink RJ7 86 ⟨"java/lang/Object", "getClass", "()Ljava/lang/Class;"⟩, Cond.selects "[Ljava/lang/Object;" ⟨"java/lang/Object", "getClass", "()Ljava/lang/Class;"⟩ ⟨"java/lang/Object", "getClass", "()Ljava/lang/Class;"⟩, Cond.instanceMethod ⟨"java/lang/Object", "getClass", "()Ljava/lang/Class;"⟩, Cond.native ⟨"java/lang/Object", "getClass", "()Ljava/lang/Class;"⟩, Cond.methodLink RJ7 300 yJ7_copyOf_6403c, Cond.static yJ7_copyOf_6403c, Cond.code yJ7_copyOf_6403c cJ7_copyOf_6403c 4 (some (.array (.object "java/lang/Object"))), Cond.classLink RJ7 110 "[Ljava/lang/Object;", Cond.classLink RJ7 2 "java/lang/Object", Cond.methodLink RJ7 304 Lib.Math.min.name, Cond.static Lib.Math.min.name, Cond.code Lib.Math.min.name Lib.Math.min.code 2 (some .int)]
def wsJx4a65c_add_9ea2d_r3 : List Cond := [Cond.methodLink RJ7 150 arraycopyName, Cond.native arraycopyName, Cond.static arraycopyName, Cond.initialized "java/lang/System"]
def wsJx4a65c_add_9ea2d : List Cond := .code yJx4a65c_add_9ea2d cJx4a65c_add_9ea2d 2 (some .boolean) :: ((wsJx4a65c_add_9ea2d_r1 ++ (wsJx4a65c_add_9ea2d_r2 ++ wsJx4a65c_add_9ea2d_r3)) ++ wsJx4a65c0)
def wsX1_lend_r1 : List Cond := [Cond.fieldLink RX1 40 "LeaseGates$Bucket" "level" "I", Cond.fieldLink RX1 31 "LeaseGates$Bucket" "lent" "I", Cond.fieldLink RX1 12 "LeaseGates$Bucket" "loans" "Ljava/util/ArrayList;", Cond.classLink RX1 57 RX5, Cond.instantiable RX5 3, Cond.initialized RX5, Cond.methodLink RX1 72 yX5_init, Cond.instanceMethod yX5_init, Cond.code yX5_init cX5_init 4 none, Cond.methodLink RX5 1 objectInit, Cond.instanceMethod objectInit, Cond.code objectInit ⟨#[0xb1]⟩ 1 none, Cond.fieldLink RX5 7 "LeaseGates$Loan" "number" "I", Cond.fieldLink RX5 13 "LeaseGates$Loan" "tokens" "I", Cond.fieldLink RX5 16 "LeaseGates$Loan" "end" "I", Cond.methodLink RX1 75 yJx4a65c_add_9ea2d, Cond.instanceMethod yJx4a65c_add_9ea2d, Cond.selects RJx4a65c yJx4a65c_add_9ea2d yJx4a65c_add_9ea2d, Cond.initialized RJx4a65c, Cond.code yJx4a65c_add_9ea2d cJx4a65c_add_9ea2d 2 (some .boolean), Cond.fieldLink RJx4a65c 63 "java/util/ArrayList" "modCount" "I", Cond.sameField "java/util/ArrayList" "java/util/AbstractList" "modCount" "I", Cond.fieldLink RJx4a65c 9 "java/util/ArrayList" "elementData" "[Ljava/lang/Object;", Cond.fieldLink RJx4a65c 48 "java/util/ArrayList" "size" "I"]
def wsX1_lend_r2 : List Cond := [Cond.methodLink RJx4a65c 131 yJx4a65c_add_72be8, Cond.instanceMethod yJx4a65c_add_72be8, Cond.selects RJx4a65c yJx4a65c_add_72be8 yJx4a65c_add_72be8, Cond.code yJx4a65c_add_72be8 cJx4a65c_add_72be8 4 none, Cond.methodLink RJx4a65c 129 yJx4a65c_grow_d5877, Cond.instanceMethod yJx4a65c_grow_d5877, Cond.selects RJx4a65c yJx4a65c_grow_d5877 yJx4a65c_grow_d5877, Cond.code yJx4a65c_grow_d5877 cJx4a65c_grow_d5877 1 (some (.array (.object "java/lang/Object"))), Cond.methodLink RJx4a65c 69 yJx4a65c_grow_92f84, Cond.instanceMethod yJx4a65c_grow_92f84, Cond.selects RJx4a65c yJx4a65c_grow_92f84 yJx4a65c_grow_92f84, Cond.code yJx4a65c_grow_92f84 cJx4a65c_grow_92f84 4 (some (.array (.object "java/lang/Object"))), Cond.fieldLink RJx4a65c 39 "java/util/ArrayList" "DEFAULTCAPACITY_EMPTY_ELEMENTDATA" "[Ljava/lang/Object;", Cond.methodLink RJx4a65c 79 Lib.Math.max.name, Cond.static Lib.Math.max.name, Cond.initialized "java/lang/Math", Cond.code Lib.Math.max.name Lib.Math.max.code 2 (some .int), Cond.classLink RJx4a65c 7 "java/lang/Object", Cond.methodLink RJx4a65c 73 yJ8_newLength_cabcc, Cond.static yJ8_newLength_cabcc, Cond.initialized RJ8, Cond.code yJ8_newLength_cabcc cJ8_newLength_cabcc 4 (some .int), Cond.methodLink RJ8 194 Lib.Math.max.name, Cond.constant RJ8 200 (2147483639)]
def wsX1_lend_r3 : List Cond := [Cond.methodLink RJ8 201 yJ8_hugeLength_7cf53, Cond.static yJ8_hugeLength_7cf53, Cond.code yJ8_hugeLength_7cf53 cJ8_hugeLength_7cf53 3 (some .int), Cond.methodLink RJx4a65c 66 yJ7_copyOf_1904c, Cond.static yJ7_copyOf_1904c, Cond.initialized RJ7, Cond.code yJ7_copyOf_1904c cJ7_copyOf_1904c 2 (some (.array (.object "java/lang/Object"))), Cond.methodLink RJ7 86 ⟨"java/lang/Object", "getClass", "()Ljava/lang/Class;"⟩, Cond.selects "[Ljava/lang/Object;" ⟨"java/lang/Object", "getClass", "()Ljava/lang/Class;"⟩ ⟨"java/lang/Object", "getClass", "()Ljava/lang/Class;"⟩, Cond.instanceMethod ⟨"java/lang/Object", "getClass", "()Ljava/lang/Class;"⟩, Cond.native ⟨"java/lang/Object", "getClass", "()Ljava/lang/Class;"⟩, Cond.methodLink RJ7 300 yJ7_copyOf_6403c, Cond.static yJ7_copyOf_6403c, Cond.code yJ7_copyOf_6403c cJ7_copyOf_6403c 4 (some (.array (.object "java/lang/Object"))), Cond.classLink RJ7 110 "[Ljava/lang/Object;", Cond.classLink RJ7 2 "java/lang/Object", Cond.methodLink RJ7 304 Lib.Math.min.name, Cond.static Lib.Math.min.name, Cond.code Lib.Math.min.name Lib.Math.min.code 2 (some .int), Cond.methodLink RJ7 150 arraycopyName, Cond.native arraycopyName, Cond.static arraycopyName, Cond.initialized "java/lang/System"]
def wsX1_lend : List Cond := .code yX1_lend cX1_lend 4 none :: ((wsX1_lend_r1 ++ (wsX1_lend_r2 ++ wsX1_lend_r3)) ++ wsX10 ++ wsX50 ++ wsJx4a65c0)
def wsX1_bringBack_r1 : List Cond := [Cond.fieldLink RX1 12 "LeaseGates$Bucket" "loans" "Ljava/util/ArrayList;", Cond.classLink RX1 57 "LeaseGates$Loan", Cond.fieldLink RX1 79 "LeaseGates$Loan" "number" "I", Cond.constantLong RX1 29 (1000), Cond.methodLink RX1 46 yJx4a65c_size_8abf5, Cond.instanceMethod yJx4a65c_size_8abf5, Cond.selects RJx4a65c yJx4a65c_size_8abf5 yJx4a65c_size_8abf5, Cond.initialized RJx4a65c, Cond.code yJx4a65c_size_8abf5 cJx4a65c_size_8abf5 1 (some .int), Cond.fieldLink RJx4a65c 48 "java/util/ArrayList" "size" "I", Cond.methodLink RX1 53 yJx4a65c_get_915e3, Cond.instanceMethod yJx4a65c_get_915e3, Cond.selects RJx4a65c yJx4a65c_get_915e3 yJx4a65c_get_915e3, Cond.code yJx4a65c_get_915e3 cJx4a65c_get_915e3 2 (some (.object "java/lang/Object")), Cond.methodLink RJx4a65c 118 yJ15_checkIndex_7cf53, Cond.static yJ15_checkIndex_7cf53, Cond.initialized RJ15, Cond.code yJ15_checkIndex_7cf53 cJ15_checkIndex_7cf53 2 (some .int), Cond.methodLink RJ15 105 yJ3_checkIndex_8e157, Cond.static yJ3_checkIndex_8e157, Cond.initialized RJ3, Cond.code yJ3_checkIndex_8e157 cJ3_checkIndex_8e157 3 (some .int), Cond.methodLink RJx4a65c 123 yJx4a65c_elementData_915e3, Cond.instanceMethod yJx4a65c_elementData_915e3]
def wsX1_bringBack_r2 : List Cond := [Cond.selects RJx4a65c yJx4a65c_elementData_915e3 yJx4a65c_elementData_915e3, Cond.code yJx4a65c_elementData_915e3 cJx4a65c_elementData_915e3 2 (some (.object "java/lang/Object")), Cond.fieldLink RJx4a65c 9 "java/util/ArrayList" "elementData" "[Ljava/lang/Object;", Cond.methodLink RX1 62 yX1_close, Cond.instanceMethod yX1_close, Cond.selects RX1 yX1_close yX1_close, Cond.initialized RX1, Cond.code yX1_close cX1_close 2 none, Cond.fieldLink RX1 31 "LeaseGates$Bucket" "lent" "I", Cond.fieldLink RX1 66 "LeaseGates$Loan" "tokens" "I", Cond.methodLink RX1 69 yJx4a65c_remove_915e3, Cond.instanceMethod yJx4a65c_remove_915e3, Cond.selects RJx4a65c yJx4a65c_remove_915e3 yJx4a65c_remove_915e3, Cond.code yJx4a65c_remove_915e3 cJx4a65c_remove_915e3 4 (some (.object "java/lang/Object")), Cond.methodLink RJx4a65c 144 yJx4a65c_fastRemove_b59b0, Cond.instanceMethod yJx4a65c_fastRemove_b59b0, Cond.selects RJx4a65c yJx4a65c_fastRemove_b59b0 yJx4a65c_fastRemove_b59b0, Cond.code yJx4a65c_fastRemove_b59b0 cJx4a65c_fastRemove_b59b0 4 none, Cond.fieldLink RJx4a65c 63 "java/util/ArrayList" "modCount" "I", Cond.sameField "java/util/ArrayList" "java/util/AbstractList" "modCount" "I", Cond.methodLink RJx4a65c 112 arraycopyName, Cond.native arraycopyName, Cond.static arraycopyName, Cond.initialized "java/lang/System"]
def wsX1_bringBack_r3 : List Cond := [Cond.methodLink RX1 25 yX1_fill, Cond.instanceMethod yX1_fill, Cond.selects RX1 yX1_fill yX1_fill, Cond.code yX1_fill cX1_fill 5 none, Cond.fieldLink RX1 22 "LeaseGates$Bucket" "burst" "I", Cond.methodLink RX1 34 Lib.MathLoose.max_long.x, Cond.static Lib.MathLoose.max_long.x, Cond.initialized "java/lang/Math", Cond.code Lib.MathLoose.max_long.x Lib.MathLoose.max_long.code 4 (some .long), Cond.fieldLink RX1 40 "LeaseGates$Bucket" "level" "I", Cond.methodLink RX1 43 Lib.MathLoose.min_long.x, Cond.static Lib.MathLoose.min_long.x, Cond.code Lib.MathLoose.min_long.x Lib.MathLoose.min_long.code 4 (some .long)]
def wsX1_bringBack : List Cond := .code yX1_bringBack cX1_bringBack 4 (some .boolean) :: ((wsX1_bringBack_r1 ++ (wsX1_bringBack_r2 ++ wsX1_bringBack_r3)) ++ wsX10 ++ wsX50 ++ wsJx4a65c0)
def wsX2_init : List Cond := .code yX2_init cX2_init 3 none :: ([.methodLink RX2 3 objectInit, .instanceMethod objectInit, .code objectInit ⟨#[0xb1]⟩ 1 none, .classLink RX2 9 RJx4a65c, .instantiable RJx4a65c 3, .initialized RJx4a65c, .fieldLink RX2 12 "LeaseGates$Desk" "holds" "Ljava/util/ArrayList;", .fieldLink RX2 18 "LeaseGates$Desk" "gate" "I", .fieldLink RX2 22 "LeaseGates$Desk" "key" "I", .methodLink RX2 11 yJx4a65c_init_da8c8, .instanceMethod yJx4a65c_init_da8c8, .code yJx4a65c_init_da8c8 cJx4a65c_init_da8c8 1 none, .fieldLink RJx4a65c 39 "java/util/ArrayList" "DEFAULTCAPACITY_EMPTY_ELEMENTDATA" "[Ljava/lang/Object;", .fieldLink RJx4a65c 9 "java/util/ArrayList" "elementData" "[Ljava/lang/Object;", .methodLink RJx4a65c 1 yJxc12de_init_da8c8, .instanceMethod yJxc12de_init_da8c8, .initialized RJxc12de, .code yJxc12de_init_da8c8 cJxc12de_init_da8c8 1 none, .fieldLink RJxc12de 7 "java/util/AbstractList" "modCount" "I", .methodLink RJxc12de 1 yJxa1e45_init_da8c8, .instanceMethod yJxa1e45_init_da8c8, .initialized RJxa1e45, .code yJxa1e45_init_da8c8 cJxa1e45_init_da8c8 1 none, .methodLink RJxa1e45 1 objectInit] ++ wsJx4a65c0 ++ wsX20)
def wsJx4a65c_clear_da8c8 : List Cond := .code yJx4a65c_clear_da8c8 cJx4a65c_clear_da8c8 4 none :: ([.fieldLink RJx4a65c 63 "java/util/ArrayList" "modCount" "I", .sameField "java/util/ArrayList" "java/util/AbstractList" "modCount" "I", .fieldLink RJx4a65c 9 "java/util/ArrayList" "elementData" "[Ljava/lang/Object;", .fieldLink RJx4a65c 48 "java/util/ArrayList" "size" "I"] ++ wsJx4a65c0)
def wsX2_clear : List Cond := .code yX2_clear cX2_clear 1 none :: ([.fieldLink RX2 12 "LeaseGates$Desk" "holds" "Ljava/util/ArrayList;", .fieldLink RX2 28 "LeaseGates$Desk" "demand" "I", .fieldLink RX2 31 "LeaseGates$Desk" "use" "I", .fieldLink RX2 34 "LeaseGates$Desk" "asks" "I", .fieldLink RX2 37 "LeaseGates$Desk" "open" "Z", .fieldLink RX2 41 "LeaseGates$Desk" "openSince" "I", .fieldLink RX2 44 "LeaseGates$Desk" "refusals" "I", .methodLink RX2 25 yJx4a65c_clear_da8c8, .instanceMethod yJx4a65c_clear_da8c8, .selects RJx4a65c yJx4a65c_clear_da8c8 yJx4a65c_clear_da8c8, .initialized RJx4a65c, .code yJx4a65c_clear_da8c8 cJx4a65c_clear_da8c8 4 none, .fieldLink RJx4a65c 63 "java/util/ArrayList" "modCount" "I", .sameField "java/util/ArrayList" "java/util/AbstractList" "modCount" "I", .fieldLink RJx4a65c 9 "java/util/ArrayList" "elementData" "[Ljava/lang/Object;", .fieldLink RJx4a65c 48 "java/util/ArrayList" "size" "I"] ++ wsX20 ++ wsJx4a65c0)
def wsX4_isLive : List Cond := .code yX4_isLive cX4_isLive 2 (some .boolean) :: ([.fieldLink RX4 16 "LeaseGates$Hold" "asked" "I", .fieldLink RX4 22 "LeaseGates$Hold" "span" "I"] ++ wsX40)
def wsX2_liveTokens_r1 : List Cond := [Cond.fieldLink RX2 12 "LeaseGates$Desk" "holds" "Ljava/util/ArrayList;", Cond.classLink RX2 55 "LeaseGates$Hold", Cond.fieldLink RX2 61 "LeaseGates$Hold" "tokens" "I", Cond.methodLink RX2 47 yJx4a65c_size_8abf5, Cond.instanceMethod yJx4a65c_size_8abf5, Cond.selects RJx4a65c yJx4a65c_size_8abf5 yJx4a65c_size_8abf5, Cond.initialized RJx4a65c, Cond.code yJx4a65c_size_8abf5 cJx4a65c_size_8abf5 1 (some .int), Cond.fieldLink RJx4a65c 48 "java/util/ArrayList" "size" "I", Cond.methodLink RX2 51 yJx4a65c_get_915e3, Cond.instanceMethod yJx4a65c_get_915e3, Cond.selects RJx4a65c yJx4a65c_get_915e3 yJx4a65c_get_915e3, Cond.code yJx4a65c_get_915e3 cJx4a65c_get_915e3 2 (some (.object "java/lang/Object")), Cond.methodLink RJx4a65c 118 yJ15_checkIndex_7cf53, Cond.static yJ15_checkIndex_7cf53, Cond.initialized RJ15, Cond.code yJ15_checkIndex_7cf53 cJ15_checkIndex_7cf53 2 (some .int), Cond.methodLink RJ15 105 yJ3_checkIndex_8e157, Cond.static yJ3_checkIndex_8e157, Cond.initialized RJ3, Cond.code yJ3_checkIndex_8e157 cJ3_checkIndex_8e157 3 (some .int), Cond.methodLink RJx4a65c 123 yJx4a65c_elementData_915e3, Cond.instanceMethod yJx4a65c_elementData_915e3, Cond.selects RJx4a65c yJx4a65c_elementData_915e3 yJx4a65c_elementData_915e3]
def wsX2_liveTokens_r2 : List Cond := [Cond.code yJx4a65c_elementData_915e3 cJx4a65c_elementData_915e3 2 (some (.object "java/lang/Object")), Cond.fieldLink RJx4a65c 9 "java/util/ArrayList" "elementData" "[Ljava/lang/Object;", Cond.methodLink RX2 57 yX4_isLive, Cond.instanceMethod yX4_isLive, Cond.selects RX4 yX4_isLive yX4_isLive, Cond.initialized RX4, Cond.code yX4_isLive cX4_isLive 2 (some .boolean), Cond.fieldLink RX4 16 "LeaseGates$Hold" "asked" "I", Cond.fieldLink RX4 22 "LeaseGates$Hold" "span" "I"]
def wsX2_liveTokens : List Cond := .code yX2_liveTokens cX2_liveTokens 5 (some .int) :: ((wsX2_liveTokens_r1 ++ wsX2_liveTokens_r2) ++ wsX20 ++ wsX40 ++ wsJx4a65c0)
def wsX4_end : List Cond := .code yX4_end cX4_end 1 (some .int) :: ([.fieldLink RX4 16 "LeaseGates$Hold" "asked" "I", .fieldLink RX4 22 "LeaseGates$Hold" "span" "I"] ++ wsX40)
def wsX2_liveHoldThatEndsFirst_r1 : List Cond := [Cond.fieldLink RX2 12 "LeaseGates$Desk" "holds" "Ljava/util/ArrayList;", Cond.classLink RX2 55 "LeaseGates$Hold", Cond.methodLink RX2 47 yJx4a65c_size_8abf5, Cond.instanceMethod yJx4a65c_size_8abf5, Cond.selects RJx4a65c yJx4a65c_size_8abf5 yJx4a65c_size_8abf5, Cond.initialized RJx4a65c, Cond.code yJx4a65c_size_8abf5 cJx4a65c_size_8abf5 1 (some .int), Cond.fieldLink RJx4a65c 48 "java/util/ArrayList" "size" "I", Cond.methodLink RX2 51 yJx4a65c_get_915e3, Cond.instanceMethod yJx4a65c_get_915e3, Cond.selects RJx4a65c yJx4a65c_get_915e3 yJx4a65c_get_915e3, Cond.code yJx4a65c_get_915e3 cJx4a65c_get_915e3 2 (some (.object "java/lang/Object")), Cond.methodLink RJx4a65c 118 yJ15_checkIndex_7cf53, Cond.static yJ15_checkIndex_7cf53, Cond.initialized RJ15, Cond.code yJ15_checkIndex_7cf53 cJ15_checkIndex_7cf53 2 (some .int), Cond.methodLink RJ15 105 yJ3_checkIndex_8e157, Cond.static yJ3_checkIndex_8e157, Cond.initialized RJ3, Cond.code yJ3_checkIndex_8e157 cJ3_checkIndex_8e157 3 (some .int), Cond.methodLink RJx4a65c 123 yJx4a65c_elementData_915e3, Cond.instanceMethod yJx4a65c_elementData_915e3, Cond.selects RJx4a65c yJx4a65c_elementData_915e3 yJx4a65c_elementData_915e3, Cond.code yJx4a65c_elementData_915e3 cJx4a65c_elementData_915e3 2 (some (.object "java/lang/Object"))]
def wsX2_liveHoldThatEndsFirst_r2 : List Cond := [Cond.fieldLink RJx4a65c 9 "java/util/ArrayList" "elementData" "[Ljava/lang/Object;", Cond.methodLink RX2 57 yX4_isLive, Cond.instanceMethod yX4_isLive, Cond.selects RX4 yX4_isLive yX4_isLive, Cond.initialized RX4, Cond.code yX4_isLive cX4_isLive 2 (some .boolean), Cond.fieldLink RX4 16 "LeaseGates$Hold" "asked" "I", Cond.fieldLink RX4 22 "LeaseGates$Hold" "span" "I", Cond.methodLink RX2 84 yX4_end, Cond.instanceMethod yX4_end, Cond.selects RX4 yX4_end yX4_end, Cond.code yX4_end cX4_end 1 (some .int)]
def wsX2_liveHoldThatEndsFirst : List Cond := .code yX2_liveHoldThatEndsFirst cX2_liveHoldThatEndsFirst 5 (some .int) :: ((wsX2_liveHoldThatEndsFirst_r1 ++ wsX2_liveHoldThatEndsFirst_r2) ++ wsX20 ++ wsJx4a65c0 ++ wsX40)
def wsX2_takeOut_r1 : List Cond := [Cond.fieldLink RX2 12 "LeaseGates$Desk" "holds" "Ljava/util/ArrayList;", Cond.classLink RX2 55 "LeaseGates$Hold", Cond.fieldLink RX2 61 "LeaseGates$Hold" "tokens" "I", Cond.methodLink RX2 75 Lib.Math.min.name, Cond.static Lib.Math.min.name, Cond.initialized "java/lang/Math", Cond.code Lib.Math.min.name Lib.Math.min.code 2 (some .int), Cond.methodLink RX2 47 yJx4a65c_size_8abf5, Cond.instanceMethod yJx4a65c_size_8abf5, Cond.selects RJx4a65c yJx4a65c_size_8abf5 yJx4a65c_size_8abf5, Cond.initialized RJx4a65c, Cond.code yJx4a65c_size_8abf5 cJx4a65c_size_8abf5 1 (some .int), Cond.fieldLink RJx4a65c 48 "java/util/ArrayList" "size" "I", Cond.methodLink RX2 72 yX2_liveHoldThatEndsFirst, Cond.instanceMethod yX2_liveHoldThatEndsFirst, Cond.selects RX2 yX2_liveHoldThatEndsFirst yX2_liveHoldThatEndsFirst, Cond.initialized RX2, Cond.code yX2_liveHoldThatEndsFirst cX2_liveHoldThatEndsFirst 5 (some .int), Cond.methodLink RX2 51 yJx4a65c_get_915e3, Cond.instanceMethod yJx4a65c_get_915e3, Cond.selects RJx4a65c yJx4a65c_get_915e3 yJx4a65c_get_915e3, Cond.code yJx4a65c_get_915e3 cJx4a65c_get_915e3 2 (some (.object "java/lang/Object")), Cond.methodLink RJx4a65c 118 yJ15_checkIndex_7cf53, Cond.static yJ15_checkIndex_7cf53]
def wsX2_takeOut_r2 : List Cond := [Cond.initialized RJ15, Cond.code yJ15_checkIndex_7cf53 cJ15_checkIndex_7cf53 2 (some .int), Cond.methodLink RJ15 105 yJ3_checkIndex_8e157, Cond.static yJ3_checkIndex_8e157, Cond.initialized RJ3, Cond.code yJ3_checkIndex_8e157 cJ3_checkIndex_8e157 3 (some .int), Cond.methodLink RJx4a65c 123 yJx4a65c_elementData_915e3, Cond.instanceMethod yJx4a65c_elementData_915e3, Cond.selects RJx4a65c yJx4a65c_elementData_915e3 yJx4a65c_elementData_915e3, Cond.code yJx4a65c_elementData_915e3 cJx4a65c_elementData_915e3 2 (some (.object "java/lang/Object")), Cond.fieldLink RJx4a65c 9 "java/util/ArrayList" "elementData" "[Ljava/lang/Object;", Cond.methodLink RX2 57 yX4_isLive, Cond.instanceMethod yX4_isLive, Cond.selects RX4 yX4_isLive yX4_isLive, Cond.initialized RX4, Cond.code yX4_isLive cX4_isLive 2 (some .boolean), Cond.fieldLink RX4 16 "LeaseGates$Hold" "asked" "I", Cond.fieldLink RX4 22 "LeaseGates$Hold" "span" "I", Cond.methodLink RX2 84 yX4_end, Cond.instanceMethod yX4_end, Cond.selects RX4 yX4_end yX4_end, Cond.code yX4_end cX4_end 1 (some .int), Cond.methodLink RX2 81 yJx4a65c_remove_915e3, Cond.instanceMethod yJx4a65c_remove_915e3]
def wsX2_takeOut_r3 : List Cond := [Cond.selects RJx4a65c yJx4a65c_remove_915e3 yJx4a65c_remove_915e3, Cond.code yJx4a65c_remove_915e3 cJx4a65c_remove_915e3 4 (some (.object "java/lang/Object")), Cond.methodLink RJx4a65c 144 yJx4a65c_fastRemove_b59b0, Cond.instanceMethod yJx4a65c_fastRemove_b59b0, Cond.selects RJx4a65c yJx4a65c_fastRemove_b59b0 yJx4a65c_fastRemove_b59b0, Cond.code yJx4a65c_fastRemove_b59b0 cJx4a65c_fastRemove_b59b0 4 none, Cond.fieldLink RJx4a65c 63 "java/util/ArrayList" "modCount" "I", Cond.sameField "java/util/ArrayList" "java/util/AbstractList" "modCount" "I", Cond.methodLink RJx4a65c 112 arraycopyName, Cond.native arraycopyName, Cond.static arraycopyName, Cond.initialized "java/lang/System"]
def wsX2_takeOut : List Cond := .code yX2_takeOut cX2_takeOut 8 none :: ((wsX2_takeOut_r1 ++ (wsX2_takeOut_r2 ++ wsX2_takeOut_r3)) ++ wsX20 ++ wsX40 ++ wsJx4a65c0)
def wsX2_spend_r1 : List Cond := [Cond.fieldLink RX2 31 "LeaseGates$Desk" "use" "I", Cond.fieldLink RX2 44 "LeaseGates$Desk" "refusals" "I", Cond.methodLink RX2 64 yX2_liveTokens, Cond.instanceMethod yX2_liveTokens, Cond.selects RX2 yX2_liveTokens yX2_liveTokens, Cond.initialized RX2, Cond.code yX2_liveTokens cX2_liveTokens 5 (some .int), Cond.fieldLink RX2 12 "LeaseGates$Desk" "holds" "Ljava/util/ArrayList;", Cond.classLink RX2 55 "LeaseGates$Hold", Cond.fieldLink RX2 61 "LeaseGates$Hold" "tokens" "I", Cond.methodLink RX2 47 yJx4a65c_size_8abf5, Cond.instanceMethod yJx4a65c_size_8abf5, Cond.selects RJx4a65c yJx4a65c_size_8abf5 yJx4a65c_size_8abf5, Cond.initialized RJx4a65c, Cond.code yJx4a65c_size_8abf5 cJx4a65c_size_8abf5 1 (some .int), Cond.fieldLink RJx4a65c 48 "java/util/ArrayList" "size" "I", Cond.methodLink RX2 51 yJx4a65c_get_915e3, Cond.instanceMethod yJx4a65c_get_915e3, Cond.selects RJx4a65c yJx4a65c_get_915e3 yJx4a65c_get_915e3, Cond.code yJx4a65c_get_915e3 cJx4a65c_get_915e3 2 (some (.object "java/lang/Object")), Cond.methodLink RJx4a65c 118 yJ15_checkIndex_7cf53, Cond.static yJ15_checkIndex_7cf53, Cond.initialized RJ15, Cond.code yJ15_checkIndex_7cf53 cJ15_checkIndex_7cf53 2 (some .int)]
def wsX2_spend_r2 : List Cond := [Cond.methodLink RJ15 105 yJ3_checkIndex_8e157, Cond.static yJ3_checkIndex_8e157, Cond.initialized RJ3, Cond.code yJ3_checkIndex_8e157 cJ3_checkIndex_8e157 3 (some .int), Cond.methodLink RJx4a65c 123 yJx4a65c_elementData_915e3, Cond.instanceMethod yJx4a65c_elementData_915e3, Cond.selects RJx4a65c yJx4a65c_elementData_915e3 yJx4a65c_elementData_915e3, Cond.code yJx4a65c_elementData_915e3 cJx4a65c_elementData_915e3 2 (some (.object "java/lang/Object")), Cond.fieldLink RJx4a65c 9 "java/util/ArrayList" "elementData" "[Ljava/lang/Object;", Cond.methodLink RX2 57 yX4_isLive, Cond.instanceMethod yX4_isLive, Cond.selects RX4 yX4_isLive yX4_isLive, Cond.initialized RX4, Cond.code yX4_isLive cX4_isLive 2 (some .boolean), Cond.fieldLink RX4 16 "LeaseGates$Hold" "asked" "I", Cond.fieldLink RX4 22 "LeaseGates$Hold" "span" "I", Cond.methodLink RX2 68 yX2_takeOut, Cond.instanceMethod yX2_takeOut, Cond.selects RX2 yX2_takeOut yX2_takeOut, Cond.code yX2_takeOut cX2_takeOut 8 none, Cond.methodLink RX2 75 Lib.Math.min.name, Cond.static Lib.Math.min.name, Cond.initialized "java/lang/Math", Cond.code Lib.Math.min.name Lib.Math.min.code 2 (some .int)]
def wsX2_spend_r3 : List Cond := [Cond.methodLink RX2 72 yX2_liveHoldThatEndsFirst, Cond.instanceMethod yX2_liveHoldThatEndsFirst, Cond.selects RX2 yX2_liveHoldThatEndsFirst yX2_liveHoldThatEndsFirst, Cond.code yX2_liveHoldThatEndsFirst cX2_liveHoldThatEndsFirst 5 (some .int), Cond.methodLink RX2 84 yX4_end, Cond.instanceMethod yX4_end, Cond.selects RX4 yX4_end yX4_end, Cond.code yX4_end cX4_end 1 (some .int), Cond.methodLink RX2 81 yJx4a65c_remove_915e3, Cond.instanceMethod yJx4a65c_remove_915e3, Cond.selects RJx4a65c yJx4a65c_remove_915e3 yJx4a65c_remove_915e3, Cond.code yJx4a65c_remove_915e3 cJx4a65c_remove_915e3 4 (some (.object "java/lang/Object")), Cond.methodLink RJx4a65c 144 yJx4a65c_fastRemove_b59b0, Cond.instanceMethod yJx4a65c_fastRemove_b59b0, Cond.selects RJx4a65c yJx4a65c_fastRemove_b59b0 yJx4a65c_fastRemove_b59b0, Cond.code yJx4a65c_fastRemove_b59b0 cJx4a65c_fastRemove_b59b0 4 none, Cond.fieldLink RJx4a65c 63 "java/util/ArrayList" "modCount" "I", Cond.sameField "java/util/ArrayList" "java/util/AbstractList" "modCount" "I", Cond.methodLink RJx4a65c 112 arraycopyName, Cond.native arraycopyName, Cond.static arraycopyName, Cond.initialized "java/lang/System"]
def wsX2_spend : List Cond := .code yX2_spend cX2_spend 3 (some .boolean) :: ((wsX2_spend_r1 ++ (wsX2_spend_r2 ++ wsX2_spend_r3)) ++ wsX20 ++ wsX40 ++ wsJx4a65c0)
def wsX4_isHalfOver : List Cond := .code yX4_isHalfOver cX4_isHalfOver 2 (some .boolean) :: ([.fieldLink RX4 16 "LeaseGates$Hold" "asked" "I", .fieldLink RX4 22 "LeaseGates$Hold" "span" "I"] ++ wsX40)
def wsJx4a65c_set_bcc79 : List Cond := .code yJx4a65c_set_bcc79 cJx4a65c_set_bcc79 4 (some (.object "java/lang/Object")) :: ([.fieldLink RJx4a65c 48 "java/util/ArrayList" "size" "I", .fieldLink RJx4a65c 9 "java/util/ArrayList" "elementData" "[Ljava/lang/Object;", .methodLink RJx4a65c 118 yJ15_checkIndex_7cf53, .static yJ15_checkIndex_7cf53, .initialized RJ15, .code yJ15_checkIndex_7cf53 cJ15_checkIndex_7cf53 2 (some .int), .methodLink RJ15 105 yJ3_checkIndex_8e157, .static yJ3_checkIndex_8e157, .initialized RJ3, .code yJ3_checkIndex_8e157 cJ3_checkIndex_8e157 3 (some .int), .methodLink RJx4a65c 123 yJx4a65c_elementData_915e3, .instanceMethod yJx4a65c_elementData_915e3, .selects RJx4a65c yJx4a65c_elementData_915e3 yJx4a65c_elementData_915e3, .initialized RJx4a65c, .code yJx4a65c_elementData_915e3 cJx4a65c_elementData_915e3 2 (some (.object "java/lang/Object"))] ++ wsJx4a65c0)
def wsX6_init__ : List Cond := .code yX6_init__ cX6_init__ 5 none :: ([.methodLink RX6 3 objectInit, .instanceMethod objectInit, .code objectInit ⟨#[0xb1]⟩ 1 none, .fieldLink RX6 9 "LeaseGates$Message" "kind" "I", .fieldLink RX6 15 "LeaseGates$Message" "gate" "I", .fieldLink RX6 18 "LeaseGates$Message" "key" "I", .fieldLink RX6 21 "LeaseGates$Message" "birth" "I", .fieldLink RX6 36 "LeaseGates$Hold" "tokens" "I", .fieldLink RX6 24 "LeaseGates$Message" "tokens" "I", .fieldLink RX6 27 "LeaseGates$Message" "count" "I", .fieldLink RX6 39 "LeaseGates$Hold" "loan" "I", .fieldLink RX6 30 "LeaseGates$Message" "loan" "I", .fieldLink RX6 33 "LeaseGates$Message" "loanLength" "I"] ++ wsX60 ++ wsX40)
def wsX7_send : List Cond := .code yX7_send cX7_send 2 none :: ([.fieldLink RX7 17 "LeaseGates$Post" "count" "I", .fieldLink RX7 11 "LeaseGates$Post" "slots" "[LLeaseGates$Message;"] ++ wsX70)
def wsX2_giveBack_r1 : List Cond := [Cond.fieldLink RX2 12 "LeaseGates$Desk" "holds" "Ljava/util/ArrayList;", Cond.classLink RX2 55 "LeaseGates$Hold", Cond.classLink RX2 94 RX6, Cond.instantiable RX6 8, Cond.initialized RX6, Cond.fieldLink RX2 18 "LeaseGates$Desk" "gate" "I", Cond.fieldLink RX2 22 "LeaseGates$Desk" "key" "I", Cond.methodLink RX2 47 yJx4a65c_size_8abf5, Cond.instanceMethod yJx4a65c_size_8abf5, Cond.selects RJx4a65c yJx4a65c_size_8abf5 yJx4a65c_size_8abf5, Cond.initialized RJx4a65c, Cond.code yJx4a65c_size_8abf5 cJx4a65c_size_8abf5 1 (some .int), Cond.fieldLink RJx4a65c 48 "java/util/ArrayList" "size" "I", Cond.methodLink RX2 51 yJx4a65c_get_915e3, Cond.instanceMethod yJx4a65c_get_915e3, Cond.selects RJx4a65c yJx4a65c_get_915e3 yJx4a65c_get_915e3, Cond.code yJx4a65c_get_915e3 cJx4a65c_get_915e3 2 (some (.object "java/lang/Object")), Cond.methodLink RJx4a65c 118 yJ15_checkIndex_7cf53, Cond.static yJ15_checkIndex_7cf53, Cond.initialized RJ15, Cond.code yJ15_checkIndex_7cf53 cJ15_checkIndex_7cf53 2 (some .int), Cond.methodLink RJ15 105 yJ3_checkIndex_8e157, Cond.static yJ3_checkIndex_8e157, Cond.initialized RJ3]
def wsX2_giveBack_r2 : List Cond := [Cond.code yJ3_checkIndex_8e157 cJ3_checkIndex_8e157 3 (some .int), Cond.methodLink RJx4a65c 123 yJx4a65c_elementData_915e3, Cond.instanceMethod yJx4a65c_elementData_915e3, Cond.selects RJx4a65c yJx4a65c_elementData_915e3 yJx4a65c_elementData_915e3, Cond.code yJx4a65c_elementData_915e3 cJx4a65c_elementData_915e3 2 (some (.object "java/lang/Object")), Cond.fieldLink RJx4a65c 9 "java/util/ArrayList" "elementData" "[Ljava/lang/Object;", Cond.methodLink RX2 57 yX4_isLive, Cond.instanceMethod yX4_isLive, Cond.selects RX4 yX4_isLive yX4_isLive, Cond.initialized RX4, Cond.code yX4_isLive cX4_isLive 2 (some .boolean), Cond.fieldLink RX4 16 "LeaseGates$Hold" "asked" "I", Cond.fieldLink RX4 22 "LeaseGates$Hold" "span" "I", Cond.methodLink RX2 105 yX4_isHalfOver, Cond.instanceMethod yX4_isHalfOver, Cond.selects RX4 yX4_isHalfOver yX4_isHalfOver, Cond.code yX4_isHalfOver cX4_isHalfOver 2 (some .boolean), Cond.methodLink RX2 108 yJx4a65c_set_bcc79, Cond.instanceMethod yJx4a65c_set_bcc79, Cond.selects RJx4a65c yJx4a65c_set_bcc79 yJx4a65c_set_bcc79, Cond.code yJx4a65c_set_bcc79 cJx4a65c_set_bcc79 4 (some (.object "java/lang/Object")), Cond.methodLink RX2 112 yX6_init__, Cond.instanceMethod yX6_init__, Cond.code yX6_init__ cX6_init__ 5 none]
def wsX2_giveBack_r3 : List Cond := [Cond.methodLink RX6 3 objectInit, Cond.instanceMethod objectInit, Cond.code objectInit ⟨#[0xb1]⟩ 1 none, Cond.fieldLink RX6 9 "LeaseGates$Message" "kind" "I", Cond.fieldLink RX6 15 "LeaseGates$Message" "gate" "I", Cond.fieldLink RX6 18 "LeaseGates$Message" "key" "I", Cond.fieldLink RX6 21 "LeaseGates$Message" "birth" "I", Cond.fieldLink RX6 36 "LeaseGates$Hold" "tokens" "I", Cond.fieldLink RX6 24 "LeaseGates$Message" "tokens" "I", Cond.fieldLink RX6 27 "LeaseGates$Message" "count" "I", Cond.fieldLink RX6 39 "LeaseGates$Hold" "loan" "I", Cond.fieldLink RX6 30 "LeaseGates$Message" "loan" "I", Cond.fieldLink RX6 33 "LeaseGates$Message" "loanLength" "I", Cond.methodLink RX2 99 yX7_send, Cond.instanceMethod yX7_send, Cond.selects RX7 yX7_send yX7_send, Cond.initialized RX7, Cond.code yX7_send cX7_send 2 none, Cond.fieldLink RX7 17 "LeaseGates$Post" "count" "I", Cond.fieldLink RX7 11 "LeaseGates$Post" "slots" "[LLeaseGates$Message;", Cond.methodLink RX2 81 yJx4a65c_remove_915e3, Cond.instanceMethod yJx4a65c_remove_915e3, Cond.selects RJx4a65c yJx4a65c_remove_915e3 yJx4a65c_remove_915e3, Cond.code yJx4a65c_remove_915e3 cJx4a65c_remove_915e3 4 (some (.object "java/lang/Object"))]
def wsX2_giveBack_r4 : List Cond := [Cond.methodLink RJx4a65c 144 yJx4a65c_fastRemove_b59b0, Cond.instanceMethod yJx4a65c_fastRemove_b59b0, Cond.selects RJx4a65c yJx4a65c_fastRemove_b59b0 yJx4a65c_fastRemove_b59b0, Cond.code yJx4a65c_fastRemove_b59b0 cJx4a65c_fastRemove_b59b0 4 none, Cond.fieldLink RJx4a65c 63 "java/util/ArrayList" "modCount" "I", Cond.sameField "java/util/ArrayList" "java/util/AbstractList" "modCount" "I", Cond.methodLink RJx4a65c 112 arraycopyName, Cond.native arraycopyName, Cond.static arraycopyName, Cond.initialized "java/lang/System"]
def wsX2_giveBack : List Cond := .code yX2_giveBack cX2_giveBack 8 none :: ((wsX2_giveBack_r1 ++ (wsX2_giveBack_r2 ++ (wsX2_giveBack_r3 ++ wsX2_giveBack_r4))) ++ wsX20 ++ wsX60 ++ wsJx4a65c0 ++ wsX40 ++ wsX70)
def wsX2_mayAsk : List Cond := .code yX2_mayAsk cX2_mayAsk 2 (some .boolean) :: ([.fieldLink RX2 37 "LeaseGates$Desk" "open" "Z", .fieldLink RX2 41 "LeaseGates$Desk" "openSince" "I"] ++ wsX20)
def wsX6_init : List Cond := .code yX6_init cX6_init 6 none :: ([.methodLink RX6 3 objectInit, .instanceMethod objectInit, .code objectInit ⟨#[0xb1]⟩ 1 none, .fieldLink RX6 9 "LeaseGates$Message" "kind" "I", .fieldLink RX6 15 "LeaseGates$Message" "gate" "I", .fieldLink RX6 18 "LeaseGates$Message" "key" "I", .fieldLink RX6 21 "LeaseGates$Message" "birth" "I", .fieldLink RX6 24 "LeaseGates$Message" "tokens" "I", .fieldLink RX6 27 "LeaseGates$Message" "count" "I", .fieldLink RX6 30 "LeaseGates$Message" "loan" "I", .fieldLink RX6 33 "LeaseGates$Message" "loanLength" "I"] ++ wsX60)
def wsX2_settle_r1 : List Cond := [Cond.fieldLink RX2 31 "LeaseGates$Desk" "use" "I", Cond.fieldLink RX2 28 "LeaseGates$Desk" "demand" "I", Cond.fieldLink RX2 34 "LeaseGates$Desk" "asks" "I", Cond.fieldLink RX2 37 "LeaseGates$Desk" "open" "Z", Cond.fieldLink RX2 41 "LeaseGates$Desk" "openSince" "I", Cond.classLink RX2 94 RX6, Cond.instantiable RX6 8, Cond.initialized RX6, Cond.fieldLink RX2 18 "LeaseGates$Desk" "gate" "I", Cond.fieldLink RX2 22 "LeaseGates$Desk" "key" "I", Cond.methodLink RX2 87 yX2_giveBack, Cond.instanceMethod yX2_giveBack, Cond.selects RX2 yX2_giveBack yX2_giveBack, Cond.initialized RX2, Cond.code yX2_giveBack cX2_giveBack 8 none, Cond.fieldLink RX2 12 "LeaseGates$Desk" "holds" "Ljava/util/ArrayList;", Cond.classLink RX2 55 "LeaseGates$Hold", Cond.methodLink RX2 47 yJx4a65c_size_8abf5, Cond.instanceMethod yJx4a65c_size_8abf5, Cond.selects RJx4a65c yJx4a65c_size_8abf5 yJx4a65c_size_8abf5, Cond.initialized RJx4a65c, Cond.code yJx4a65c_size_8abf5 cJx4a65c_size_8abf5 1 (some .int), Cond.fieldLink RJx4a65c 48 "java/util/ArrayList" "size" "I", Cond.methodLink RX2 51 yJx4a65c_get_915e3]
def wsX2_settle_r2 : List Cond := [Cond.instanceMethod yJx4a65c_get_915e3, Cond.selects RJx4a65c yJx4a65c_get_915e3 yJx4a65c_get_915e3, Cond.code yJx4a65c_get_915e3 cJx4a65c_get_915e3 2 (some (.object "java/lang/Object")), Cond.methodLink RJx4a65c 118 yJ15_checkIndex_7cf53, Cond.static yJ15_checkIndex_7cf53, Cond.initialized RJ15, Cond.code yJ15_checkIndex_7cf53 cJ15_checkIndex_7cf53 2 (some .int), Cond.methodLink RJ15 105 yJ3_checkIndex_8e157, Cond.static yJ3_checkIndex_8e157, Cond.initialized RJ3, Cond.code yJ3_checkIndex_8e157 cJ3_checkIndex_8e157 3 (some .int), Cond.methodLink RJx4a65c 123 yJx4a65c_elementData_915e3, Cond.instanceMethod yJx4a65c_elementData_915e3, Cond.selects RJx4a65c yJx4a65c_elementData_915e3 yJx4a65c_elementData_915e3, Cond.code yJx4a65c_elementData_915e3 cJx4a65c_elementData_915e3 2 (some (.object "java/lang/Object")), Cond.fieldLink RJx4a65c 9 "java/util/ArrayList" "elementData" "[Ljava/lang/Object;", Cond.methodLink RX2 57 yX4_isLive, Cond.instanceMethod yX4_isLive, Cond.selects RX4 yX4_isLive yX4_isLive, Cond.initialized RX4, Cond.code yX4_isLive cX4_isLive 2 (some .boolean), Cond.fieldLink RX4 16 "LeaseGates$Hold" "asked" "I", Cond.fieldLink RX4 22 "LeaseGates$Hold" "span" "I", Cond.methodLink RX2 105 yX4_isHalfOver]
def wsX2_settle_r3 : List Cond := [Cond.instanceMethod yX4_isHalfOver, Cond.selects RX4 yX4_isHalfOver yX4_isHalfOver, Cond.code yX4_isHalfOver cX4_isHalfOver 2 (some .boolean), Cond.methodLink RX2 108 yJx4a65c_set_bcc79, Cond.instanceMethod yJx4a65c_set_bcc79, Cond.selects RJx4a65c yJx4a65c_set_bcc79 yJx4a65c_set_bcc79, Cond.code yJx4a65c_set_bcc79 cJx4a65c_set_bcc79 4 (some (.object "java/lang/Object")), Cond.methodLink RX2 112 yX6_init__, Cond.instanceMethod yX6_init__, Cond.code yX6_init__ cX6_init__ 5 none, Cond.methodLink RX6 3 objectInit, Cond.instanceMethod objectInit, Cond.code objectInit ⟨#[0xb1]⟩ 1 none, Cond.fieldLink RX6 9 "LeaseGates$Message" "kind" "I", Cond.fieldLink RX6 15 "LeaseGates$Message" "gate" "I", Cond.fieldLink RX6 18 "LeaseGates$Message" "key" "I", Cond.fieldLink RX6 21 "LeaseGates$Message" "birth" "I", Cond.fieldLink RX6 36 "LeaseGates$Hold" "tokens" "I", Cond.fieldLink RX6 24 "LeaseGates$Message" "tokens" "I", Cond.fieldLink RX6 27 "LeaseGates$Message" "count" "I", Cond.fieldLink RX6 39 "LeaseGates$Hold" "loan" "I", Cond.fieldLink RX6 30 "LeaseGates$Message" "loan" "I", Cond.fieldLink RX6 33 "LeaseGates$Message" "loanLength" "I", Cond.methodLink RX2 99 yX7_send]
def wsX2_settle_r4 : List Cond := [Cond.instanceMethod yX7_send, Cond.selects RX7 yX7_send yX7_send, Cond.initialized RX7, Cond.code yX7_send cX7_send 2 none, Cond.fieldLink RX7 17 "LeaseGates$Post" "count" "I", Cond.fieldLink RX7 11 "LeaseGates$Post" "slots" "[LLeaseGates$Message;", Cond.methodLink RX2 81 yJx4a65c_remove_915e3, Cond.instanceMethod yJx4a65c_remove_915e3, Cond.selects RJx4a65c yJx4a65c_remove_915e3 yJx4a65c_remove_915e3, Cond.code yJx4a65c_remove_915e3 cJx4a65c_remove_915e3 4 (some (.object "java/lang/Object")), Cond.methodLink RJx4a65c 144 yJx4a65c_fastRemove_b59b0, Cond.instanceMethod yJx4a65c_fastRemove_b59b0, Cond.selects RJx4a65c yJx4a65c_fastRemove_b59b0 yJx4a65c_fastRemove_b59b0, Cond.code yJx4a65c_fastRemove_b59b0 cJx4a65c_fastRemove_b59b0 4 none, Cond.fieldLink RJx4a65c 63 "java/util/ArrayList" "modCount" "I", Cond.sameField "java/util/ArrayList" "java/util/AbstractList" "modCount" "I", Cond.methodLink RJx4a65c 112 arraycopyName, Cond.native arraycopyName, Cond.static arraycopyName, Cond.initialized "java/lang/System", Cond.methodLink RX2 64 yX2_liveTokens, Cond.instanceMethod yX2_liveTokens, Cond.selects RX2 yX2_liveTokens yX2_liveTokens, Cond.code yX2_liveTokens cX2_liveTokens 5 (some .int)]
def wsX2_settle_r5 : List Cond := [Cond.fieldLink RX2 61 "LeaseGates$Hold" "tokens" "I", Cond.methodLink RX2 91 yX2_mayAsk, Cond.instanceMethod yX2_mayAsk, Cond.selects RX2 yX2_mayAsk yX2_mayAsk, Cond.code yX2_mayAsk cX2_mayAsk 2 (some .boolean), Cond.methodLink RX2 96 yX6_init, Cond.instanceMethod yX6_init, Cond.code yX6_init cX6_init 6 none]
def wsX2_settle : List Cond := .code yX2_settle cX2_settle 5 none :: ((wsX2_settle_r1 ++ (wsX2_settle_r2 ++ (wsX2_settle_r3 ++ (wsX2_settle_r4 ++ wsX2_settle_r5)))) ++ wsX20 ++ wsX60 ++ wsJx4a65c0 ++ wsX40 ++ wsX70)
def wsX4_init : List Cond := .code yX4_init cX4_init 3 none :: ([.methodLink RX4 1 objectInit, .instanceMethod objectInit, .code objectInit ⟨#[0xb1]⟩ 1 none, .fieldLink RX4 7 "LeaseGates$Message" "loan" "I", .fieldLink RX4 13 "LeaseGates$Hold" "loan" "I", .fieldLink RX4 16 "LeaseGates$Hold" "asked" "I", .fieldLink RX4 19 "LeaseGates$Message" "loanLength" "I", .fieldLink RX4 22 "LeaseGates$Hold" "span" "I", .fieldLink RX4 25 "LeaseGates$Message" "tokens" "I", .fieldLink RX4 28 "LeaseGates$Hold" "tokens" "I"] ++ wsX60 ++ wsX40)
def wsX2_accept_r1 : List Cond := [Cond.fieldLink RX2 37 "LeaseGates$Desk" "open" "Z", Cond.fieldLink RX2 115 "LeaseGates$Message" "count" "I", Cond.fieldLink RX2 34 "LeaseGates$Desk" "asks" "I", Cond.fieldLink RX2 118 "LeaseGates$Message" "tokens" "I", Cond.fieldLink RX2 12 "LeaseGates$Desk" "holds" "Ljava/util/ArrayList;", Cond.classLink RX2 55 RX4, Cond.instantiable RX4 4, Cond.initialized RX4, Cond.fieldLink RX2 41 "LeaseGates$Desk" "openSince" "I", Cond.methodLink RX2 119 yX4_init, Cond.instanceMethod yX4_init, Cond.code yX4_init cX4_init 3 none, Cond.methodLink RX4 1 objectInit, Cond.instanceMethod objectInit, Cond.code objectInit ⟨#[0xb1]⟩ 1 none, Cond.fieldLink RX4 7 "LeaseGates$Message" "loan" "I", Cond.fieldLink RX4 13 "LeaseGates$Hold" "loan" "I", Cond.fieldLink RX4 16 "LeaseGates$Hold" "asked" "I", Cond.fieldLink RX4 19 "LeaseGates$Message" "loanLength" "I", Cond.fieldLink RX4 22 "LeaseGates$Hold" "span" "I", Cond.fieldLink RX4 25 "LeaseGates$Message" "tokens" "I", Cond.fieldLink RX4 28 "LeaseGates$Hold" "tokens" "I", Cond.methodLink RX2 122 yJx4a65c_add_9ea2d, Cond.instanceMethod yJx4a65c_add_9ea2d]
def wsX2_accept_r2 : List Cond := [Cond.selects RJx4a65c yJx4a65c_add_9ea2d yJx4a65c_add_9ea2d, Cond.initialized RJx4a65c, Cond.code yJx4a65c_add_9ea2d cJx4a65c_add_9ea2d 2 (some .boolean), Cond.fieldLink RJx4a65c 63 "java/util/ArrayList" "modCount" "I", Cond.sameField "java/util/ArrayList" "java/util/AbstractList" "modCount" "I", Cond.fieldLink RJx4a65c 9 "java/util/ArrayList" "elementData" "[Ljava/lang/Object;", Cond.fieldLink RJx4a65c 48 "java/util/ArrayList" "size" "I", Cond.methodLink RJx4a65c 131 yJx4a65c_add_72be8, Cond.instanceMethod yJx4a65c_add_72be8, Cond.selects RJx4a65c yJx4a65c_add_72be8 yJx4a65c_add_72be8, Cond.code yJx4a65c_add_72be8 cJx4a65c_add_72be8 4 none, Cond.methodLink RJx4a65c 129 yJx4a65c_grow_d5877, Cond.instanceMethod yJx4a65c_grow_d5877, Cond.selects RJx4a65c yJx4a65c_grow_d5877 yJx4a65c_grow_d5877, Cond.code yJx4a65c_grow_d5877 cJx4a65c_grow_d5877 1 (some (.array (.object "java/lang/Object"))), Cond.methodLink RJx4a65c 69 yJx4a65c_grow_92f84, Cond.instanceMethod yJx4a65c_grow_92f84, Cond.selects RJx4a65c yJx4a65c_grow_92f84 yJx4a65c_grow_92f84, Cond.code yJx4a65c_grow_92f84 cJx4a65c_grow_92f84 4 (some (.array (.object "java/lang/Object"))), Cond.fieldLink RJx4a65c 39 "java/util/ArrayList" "DEFAULTCAPACITY_EMPTY_ELEMENTDATA" "[Ljava/lang/Object;", Cond.methodLink RJx4a65c 79 Lib.Math.max.name, Cond.static Lib.Math.max.name, Cond.initialized "java/lang/Math", Cond.code Lib.Math.max.name Lib.Math.max.code 2 (some .int)]
def wsX2_accept_r3 : List Cond := [Cond.classLink RJx4a65c 7 "java/lang/Object", Cond.methodLink RJx4a65c 73 yJ8_newLength_cabcc, Cond.static yJ8_newLength_cabcc, Cond.initialized RJ8, Cond.code yJ8_newLength_cabcc cJ8_newLength_cabcc 4 (some .int), Cond.methodLink RJ8 194 Lib.Math.max.name, Cond.constant RJ8 200 (2147483639), Cond.methodLink RJ8 201 yJ8_hugeLength_7cf53, Cond.static yJ8_hugeLength_7cf53, Cond.code yJ8_hugeLength_7cf53 cJ8_hugeLength_7cf53 3 (some .int), Cond.methodLink RJx4a65c 66 yJ7_copyOf_1904c, Cond.static yJ7_copyOf_1904c, Cond.initialized RJ7, Cond.code yJ7_copyOf_1904c cJ7_copyOf_1904c 2 (some (.array (.object "java/lang/Object"))), Cond.methodLink RJ7 86 ⟨"java/lang/Object", "getClass", "()Ljava/lang/Class;"⟩, Cond.selects "[Ljava/lang/Object;" ⟨"java/lang/Object", "getClass", "()Ljava/lang/Class;"⟩ ⟨"java/lang/Object", "getClass", "()Ljava/lang/Class;"⟩, Cond.instanceMethod ⟨"java/lang/Object", "getClass", "()Ljava/lang/Class;"⟩, Cond.native ⟨"java/lang/Object", "getClass", "()Ljava/lang/Class;"⟩, Cond.methodLink RJ7 300 yJ7_copyOf_6403c, Cond.static yJ7_copyOf_6403c, Cond.code yJ7_copyOf_6403c cJ7_copyOf_6403c 4 (some (.array (.object "java/lang/Object"))), Cond.classLink RJ7 110 "[Ljava/lang/Object;", Cond.classLink RJ7 2 "java/lang/Object", Cond.methodLink RJ7 304 Lib.Math.min.name]
def wsX2_accept_r4 : List Cond := [Cond.static Lib.Math.min.name, Cond.code Lib.Math.min.name Lib.Math.min.code 2 (some .int), Cond.methodLink RJ7 150 arraycopyName, Cond.native arraycopyName, Cond.static arraycopyName, Cond.initialized "java/lang/System"]
def wsX2_accept : List Cond := .code yX2_accept cX2_accept 2 (some .boolean) :: ((wsX2_accept_r1 ++ (wsX2_accept_r2 ++ (wsX2_accept_r3 ++ wsX2_accept_r4))) ++ wsX20 ++ wsX60 ++ wsX40 ++ wsJx4a65c0)
def wsX9_init : List Cond := .code yX9_init cX9_init 1 none :: ([.methodLink RX9 1 objectInit, .instanceMethod objectInit, .code objectInit ⟨#[0xb1]⟩ 1 none, .fieldLink RX9 7 "LeaseGates$Ticker" "pace" "I"] ++ wsX90)
def wsX3_init_r1 : List Cond := [Cond.methodLink RX3 3 objectInit, Cond.instanceMethod objectInit, Cond.code objectInit ⟨#[0xb1]⟩ 1 none, Cond.classLink RX3 9 RX9, Cond.instantiable RX9 2, Cond.initialized RX9, Cond.fieldLink RX3 12 "LeaseGates$Gate" "ticker" "LLeaseGates$Ticker;", Cond.classLink RX3 18 RX2, Cond.fieldLink RX3 20 "LeaseGates$Gate" "desks" "[LLeaseGates$Desk;", Cond.instantiable RX2 9, Cond.initialized RX2, Cond.instanceMethod yX9_init, Cond.code yX9_init cX9_init 1 none, Cond.methodLink RX9 1 objectInit, Cond.fieldLink RX9 7 "LeaseGates$Ticker" "pace" "I", Cond.methodLink RX3 24 yX2_init, Cond.instanceMethod yX2_init, Cond.code yX2_init cX2_init 3 none, Cond.methodLink RX2 3 objectInit, Cond.classLink RX2 9 RJx4a65c, Cond.instantiable RJx4a65c 3, Cond.initialized RJx4a65c, Cond.fieldLink RX2 12 "LeaseGates$Desk" "holds" "Ljava/util/ArrayList;", Cond.fieldLink RX2 18 "LeaseGates$Desk" "gate" "I"]
def wsX3_init_r2 : List Cond := [Cond.fieldLink RX2 22 "LeaseGates$Desk" "key" "I", Cond.methodLink RX2 11 yJx4a65c_init_da8c8, Cond.instanceMethod yJx4a65c_init_da8c8, Cond.code yJx4a65c_init_da8c8 cJx4a65c_init_da8c8 1 none, Cond.fieldLink RJx4a65c 39 "java/util/ArrayList" "DEFAULTCAPACITY_EMPTY_ELEMENTDATA" "[Ljava/lang/Object;", Cond.fieldLink RJx4a65c 9 "java/util/ArrayList" "elementData" "[Ljava/lang/Object;", Cond.methodLink RJx4a65c 1 yJxc12de_init_da8c8, Cond.instanceMethod yJxc12de_init_da8c8, Cond.initialized RJxc12de, Cond.code yJxc12de_init_da8c8 cJxc12de_init_da8c8 1 none, Cond.fieldLink RJxc12de 7 "java/util/AbstractList" "modCount" "I", Cond.methodLink RJxc12de 1 yJxa1e45_init_da8c8, Cond.instanceMethod yJxa1e45_init_da8c8, Cond.initialized RJxa1e45, Cond.code yJxa1e45_init_da8c8 cJxa1e45_init_da8c8 1 none, Cond.methodLink RJxa1e45 1 objectInit]
def wsX3_init : List Cond := .code yX3_init cX3_init 3 none :: ((wsX3_init_r1 ++ wsX3_init_r2) ++ wsX90 ++ wsX30 ++ wsX20 ++ wsJx4a65c0)
def wsX9_now : List Cond := .code yX9_now cX9_now 1 (some .int) :: ([.fieldLink RX9 13 "LeaseGates$Ticker" "thousandths" "J", .constantLong RX9 17 (1000)] ++ wsX90)
def wsX3_spend_r1 : List Cond := [Cond.fieldLink RX3 20 "LeaseGates$Gate" "desks" "[LLeaseGates$Desk;", Cond.fieldLink RX3 12 "LeaseGates$Gate" "ticker" "LLeaseGates$Ticker;", Cond.methodLink RX3 27 yX9_now, Cond.instanceMethod yX9_now, Cond.selects RX9 yX9_now yX9_now, Cond.initialized RX9, Cond.code yX9_now cX9_now 1 (some .int), Cond.fieldLink RX9 13 "LeaseGates$Ticker" "thousandths" "J", Cond.constantLong RX9 17 (1000), Cond.methodLink RX3 31 yX2_spend, Cond.instanceMethod yX2_spend, Cond.selects RX2 yX2_spend yX2_spend, Cond.initialized RX2, Cond.code yX2_spend cX2_spend 3 (some .boolean), Cond.fieldLink RX2 31 "LeaseGates$Desk" "use" "I", Cond.fieldLink RX2 44 "LeaseGates$Desk" "refusals" "I", Cond.methodLink RX2 64 yX2_liveTokens, Cond.instanceMethod yX2_liveTokens, Cond.selects RX2 yX2_liveTokens yX2_liveTokens, Cond.code yX2_liveTokens cX2_liveTokens 5 (some .int), Cond.fieldLink RX2 12 "LeaseGates$Desk" "holds" "Ljava/util/ArrayList;", Cond.classLink RX2 55 "LeaseGates$Hold", Cond.fieldLink RX2 61 "LeaseGates$Hold" "tokens" "I", Cond.methodLink RX2 47 yJx4a65c_size_8abf5]
def wsX3_spend_r2 : List Cond := [Cond.instanceMethod yJx4a65c_size_8abf5, Cond.selects RJx4a65c yJx4a65c_size_8abf5 yJx4a65c_size_8abf5, Cond.initialized RJx4a65c, Cond.code yJx4a65c_size_8abf5 cJx4a65c_size_8abf5 1 (some .int), Cond.fieldLink RJx4a65c 48 "java/util/ArrayList" "size" "I", Cond.methodLink RX2 51 yJx4a65c_get_915e3, Cond.instanceMethod yJx4a65c_get_915e3, Cond.selects RJx4a65c yJx4a65c_get_915e3 yJx4a65c_get_915e3, Cond.code yJx4a65c_get_915e3 cJx4a65c_get_915e3 2 (some (.object "java/lang/Object")), Cond.methodLink RJx4a65c 118 yJ15_checkIndex_7cf53, Cond.static yJ15_checkIndex_7cf53, Cond.initialized RJ15, Cond.code yJ15_checkIndex_7cf53 cJ15_checkIndex_7cf53 2 (some .int), Cond.methodLink RJ15 105 yJ3_checkIndex_8e157, Cond.static yJ3_checkIndex_8e157, Cond.initialized RJ3, Cond.code yJ3_checkIndex_8e157 cJ3_checkIndex_8e157 3 (some .int), Cond.methodLink RJx4a65c 123 yJx4a65c_elementData_915e3, Cond.instanceMethod yJx4a65c_elementData_915e3, Cond.selects RJx4a65c yJx4a65c_elementData_915e3 yJx4a65c_elementData_915e3, Cond.code yJx4a65c_elementData_915e3 cJx4a65c_elementData_915e3 2 (some (.object "java/lang/Object")), Cond.fieldLink RJx4a65c 9 "java/util/ArrayList" "elementData" "[Ljava/lang/Object;", Cond.methodLink RX2 57 yX4_isLive, Cond.instanceMethod yX4_isLive]
def wsX3_spend_r3 : List Cond := [Cond.selects RX4 yX4_isLive yX4_isLive, Cond.initialized RX4, Cond.code yX4_isLive cX4_isLive 2 (some .boolean), Cond.fieldLink RX4 16 "LeaseGates$Hold" "asked" "I", Cond.fieldLink RX4 22 "LeaseGates$Hold" "span" "I", Cond.methodLink RX2 68 yX2_takeOut, Cond.instanceMethod yX2_takeOut, Cond.selects RX2 yX2_takeOut yX2_takeOut, Cond.code yX2_takeOut cX2_takeOut 8 none, Cond.methodLink RX2 75 Lib.Math.min.name, Cond.static Lib.Math.min.name, Cond.initialized "java/lang/Math", Cond.code Lib.Math.min.name Lib.Math.min.code 2 (some .int), Cond.methodLink RX2 72 yX2_liveHoldThatEndsFirst, Cond.instanceMethod yX2_liveHoldThatEndsFirst, Cond.selects RX2 yX2_liveHoldThatEndsFirst yX2_liveHoldThatEndsFirst, Cond.code yX2_liveHoldThatEndsFirst cX2_liveHoldThatEndsFirst 5 (some .int), Cond.methodLink RX2 84 yX4_end, Cond.instanceMethod yX4_end, Cond.selects RX4 yX4_end yX4_end, Cond.code yX4_end cX4_end 1 (some .int), Cond.methodLink RX2 81 yJx4a65c_remove_915e3, Cond.instanceMethod yJx4a65c_remove_915e3, Cond.selects RJx4a65c yJx4a65c_remove_915e3 yJx4a65c_remove_915e3]
def wsX3_spend_r4 : List Cond := [Cond.code yJx4a65c_remove_915e3 cJx4a65c_remove_915e3 4 (some (.object "java/lang/Object")), Cond.methodLink RJx4a65c 144 yJx4a65c_fastRemove_b59b0, Cond.instanceMethod yJx4a65c_fastRemove_b59b0, Cond.selects RJx4a65c yJx4a65c_fastRemove_b59b0 yJx4a65c_fastRemove_b59b0, Cond.code yJx4a65c_fastRemove_b59b0 cJx4a65c_fastRemove_b59b0 4 none, Cond.fieldLink RJx4a65c 63 "java/util/ArrayList" "modCount" "I", Cond.sameField "java/util/ArrayList" "java/util/AbstractList" "modCount" "I", Cond.methodLink RJx4a65c 112 arraycopyName, Cond.native arraycopyName, Cond.static arraycopyName, Cond.initialized "java/lang/System"]
def wsX3_spend : List Cond := .code yX3_spend cX3_spend 3 (some .boolean) :: ((wsX3_spend_r1 ++ (wsX3_spend_r2 ++ (wsX3_spend_r3 ++ wsX3_spend_r4))) ++ wsX30 ++ wsX90 ++ wsX20 ++ wsX40 ++ wsJx4a65c0)
def wsX3_settle_r1 : List Cond := [Cond.fieldLink RX3 20 "LeaseGates$Gate" "desks" "[LLeaseGates$Desk;", Cond.fieldLink RX3 35 "LeaseGates$Gate" "birth" "I", Cond.fieldLink RX3 12 "LeaseGates$Gate" "ticker" "LLeaseGates$Ticker;", Cond.methodLink RX3 27 yX9_now, Cond.instanceMethod yX9_now, Cond.selects RX9 yX9_now yX9_now, Cond.initialized RX9, Cond.code yX9_now cX9_now 1 (some .int), Cond.fieldLink RX9 13 "LeaseGates$Ticker" "thousandths" "J", Cond.constantLong RX9 17 (1000), Cond.methodLink RX3 39 yX2_settle, Cond.instanceMethod yX2_settle, Cond.selects RX2 yX2_settle yX2_settle, Cond.initialized RX2, Cond.code yX2_settle cX2_settle 5 none, Cond.fieldLink RX2 31 "LeaseGates$Desk" "use" "I", Cond.fieldLink RX2 28 "LeaseGates$Desk" "demand" "I", Cond.fieldLink RX2 34 "LeaseGates$Desk" "asks" "I", Cond.fieldLink RX2 37 "LeaseGates$Desk" "open" "Z", Cond.fieldLink RX2 41 "LeaseGates$Desk" "openSince" "I", Cond.classLink RX2 94 RX6, Cond.instantiable RX6 8, Cond.initialized RX6, Cond.fieldLink RX2 18 "LeaseGates$Desk" "gate" "I"]
def wsX3_settle_r2 : List Cond := [Cond.fieldLink RX2 22 "LeaseGates$Desk" "key" "I", Cond.methodLink RX2 87 yX2_giveBack, Cond.instanceMethod yX2_giveBack, Cond.selects RX2 yX2_giveBack yX2_giveBack, Cond.code yX2_giveBack cX2_giveBack 8 none, Cond.fieldLink RX2 12 "LeaseGates$Desk" "holds" "Ljava/util/ArrayList;", Cond.classLink RX2 55 "LeaseGates$Hold", Cond.methodLink RX2 47 yJx4a65c_size_8abf5, Cond.instanceMethod yJx4a65c_size_8abf5, Cond.selects RJx4a65c yJx4a65c_size_8abf5 yJx4a65c_size_8abf5, Cond.initialized RJx4a65c, Cond.code yJx4a65c_size_8abf5 cJx4a65c_size_8abf5 1 (some .int), Cond.fieldLink RJx4a65c 48 "java/util/ArrayList" "size" "I", Cond.methodLink RX2 51 yJx4a65c_get_915e3, Cond.instanceMethod yJx4a65c_get_915e3, Cond.selects RJx4a65c yJx4a65c_get_915e3 yJx4a65c_get_915e3, Cond.code yJx4a65c_get_915e3 cJx4a65c_get_915e3 2 (some (.object "java/lang/Object")), Cond.methodLink RJx4a65c 118 yJ15_checkIndex_7cf53, Cond.static yJ15_checkIndex_7cf53, Cond.initialized RJ15, Cond.code yJ15_checkIndex_7cf53 cJ15_checkIndex_7cf53 2 (some .int), Cond.methodLink RJ15 105 yJ3_checkIndex_8e157, Cond.static yJ3_checkIndex_8e157, Cond.initialized RJ3]
def wsX3_settle_r3 : List Cond := [Cond.code yJ3_checkIndex_8e157 cJ3_checkIndex_8e157 3 (some .int), Cond.methodLink RJx4a65c 123 yJx4a65c_elementData_915e3, Cond.instanceMethod yJx4a65c_elementData_915e3, Cond.selects RJx4a65c yJx4a65c_elementData_915e3 yJx4a65c_elementData_915e3, Cond.code yJx4a65c_elementData_915e3 cJx4a65c_elementData_915e3 2 (some (.object "java/lang/Object")), Cond.fieldLink RJx4a65c 9 "java/util/ArrayList" "elementData" "[Ljava/lang/Object;", Cond.methodLink RX2 57 yX4_isLive, Cond.instanceMethod yX4_isLive, Cond.selects RX4 yX4_isLive yX4_isLive, Cond.initialized RX4, Cond.code yX4_isLive cX4_isLive 2 (some .boolean), Cond.fieldLink RX4 16 "LeaseGates$Hold" "asked" "I", Cond.fieldLink RX4 22 "LeaseGates$Hold" "span" "I", Cond.methodLink RX2 105 yX4_isHalfOver, Cond.instanceMethod yX4_isHalfOver, Cond.selects RX4 yX4_isHalfOver yX4_isHalfOver, Cond.code yX4_isHalfOver cX4_isHalfOver 2 (some .boolean), Cond.methodLink RX2 108 yJx4a65c_set_bcc79, Cond.instanceMethod yJx4a65c_set_bcc79, Cond.selects RJx4a65c yJx4a65c_set_bcc79 yJx4a65c_set_bcc79, Cond.code yJx4a65c_set_bcc79 cJx4a65c_set_bcc79 4 (some (.object "java/lang/Object")), Cond.methodLink RX2 112 yX6_init__, Cond.instanceMethod yX6_init__, Cond.code yX6_init__ cX6_init__ 5 none]
def wsX3_settle_r4 : List Cond := [Cond.methodLink RX6 3 objectInit, Cond.instanceMethod objectInit, Cond.code objectInit ⟨#[0xb1]⟩ 1 none, Cond.fieldLink RX6 9 "LeaseGates$Message" "kind" "I", Cond.fieldLink RX6 15 "LeaseGates$Message" "gate" "I", Cond.fieldLink RX6 18 "LeaseGates$Message" "key" "I", Cond.fieldLink RX6 21 "LeaseGates$Message" "birth" "I", Cond.fieldLink RX6 36 "LeaseGates$Hold" "tokens" "I", Cond.fieldLink RX6 24 "LeaseGates$Message" "tokens" "I", Cond.fieldLink RX6 27 "LeaseGates$Message" "count" "I", Cond.fieldLink RX6 39 "LeaseGates$Hold" "loan" "I", Cond.fieldLink RX6 30 "LeaseGates$Message" "loan" "I", Cond.fieldLink RX6 33 "LeaseGates$Message" "loanLength" "I", Cond.methodLink RX2 99 yX7_send, Cond.instanceMethod yX7_send, Cond.selects RX7 yX7_send yX7_send, Cond.initialized RX7, Cond.code yX7_send cX7_send 2 none, Cond.fieldLink RX7 17 "LeaseGates$Post" "count" "I", Cond.fieldLink RX7 11 "LeaseGates$Post" "slots" "[LLeaseGates$Message;", Cond.methodLink RX2 81 yJx4a65c_remove_915e3, Cond.instanceMethod yJx4a65c_remove_915e3, Cond.selects RJx4a65c yJx4a65c_remove_915e3 yJx4a65c_remove_915e3, Cond.code yJx4a65c_remove_915e3 cJx4a65c_remove_915e3 4 (some (.object "java/lang/Object"))]
def wsX3_settle_r5 : List Cond := [Cond.methodLink RJx4a65c 144 yJx4a65c_fastRemove_b59b0, Cond.instanceMethod yJx4a65c_fastRemove_b59b0, Cond.selects RJx4a65c yJx4a65c_fastRemove_b59b0 yJx4a65c_fastRemove_b59b0, Cond.code yJx4a65c_fastRemove_b59b0 cJx4a65c_fastRemove_b59b0 4 none, Cond.fieldLink RJx4a65c 63 "java/util/ArrayList" "modCount" "I", Cond.sameField "java/util/ArrayList" "java/util/AbstractList" "modCount" "I", Cond.methodLink RJx4a65c 112 arraycopyName, Cond.native arraycopyName, Cond.static arraycopyName, Cond.initialized "java/lang/System", Cond.methodLink RX2 64 yX2_liveTokens, Cond.instanceMethod yX2_liveTokens, Cond.selects RX2 yX2_liveTokens yX2_liveTokens, Cond.code yX2_liveTokens cX2_liveTokens 5 (some .int), Cond.fieldLink RX2 61 "LeaseGates$Hold" "tokens" "I", Cond.methodLink RX2 91 yX2_mayAsk, Cond.instanceMethod yX2_mayAsk, Cond.selects RX2 yX2_mayAsk yX2_mayAsk, Cond.code yX2_mayAsk cX2_mayAsk 2 (some .boolean), Cond.methodLink RX2 96 yX6_init, Cond.instanceMethod yX6_init, Cond.code yX6_init cX6_init 6 none]
def wsX3_settle : List Cond := .code yX3_settle cX3_settle 3 none :: ((wsX3_settle_r1 ++ (wsX3_settle_r2 ++ (wsX3_settle_r3 ++ (wsX3_settle_r4 ++ wsX3_settle_r5)))) ++ wsX30 ++ wsX90 ++ wsX20 ++ wsX60 ++ wsJx4a65c0 ++ wsX40 ++ wsX70)
def wsX3_hearGrant_r1 : List Cond := [Cond.fieldLink RX3 43 "LeaseGates$Message" "birth" "I", Cond.fieldLink RX3 35 "LeaseGates$Gate" "birth" "I", Cond.fieldLink RX3 20 "LeaseGates$Gate" "desks" "[LLeaseGates$Desk;", Cond.fieldLink RX3 46 "LeaseGates$Message" "key" "I", Cond.methodLink RX3 49 yX2_accept, Cond.instanceMethod yX2_accept, Cond.selects RX2 yX2_accept yX2_accept, Cond.initialized RX2, Cond.code yX2_accept cX2_accept 2 (some .boolean), Cond.fieldLink RX2 37 "LeaseGates$Desk" "open" "Z", Cond.fieldLink RX2 115 "LeaseGates$Message" "count" "I", Cond.fieldLink RX2 34 "LeaseGates$Desk" "asks" "I", Cond.fieldLink RX2 118 "LeaseGates$Message" "tokens" "I", Cond.fieldLink RX2 12 "LeaseGates$Desk" "holds" "Ljava/util/ArrayList;", Cond.classLink RX2 55 RX4, Cond.instantiable RX4 4, Cond.initialized RX4, Cond.fieldLink RX2 41 "LeaseGates$Desk" "openSince" "I", Cond.methodLink RX2 119 yX4_init, Cond.instanceMethod yX4_init, Cond.code yX4_init cX4_init 3 none, Cond.methodLink RX4 1 objectInit, Cond.instanceMethod objectInit, Cond.code objectInit ⟨#[0xb1]⟩ 1 none]
def wsX3_hearGrant_r2 : List Cond := [Cond.fieldLink RX4 7 "LeaseGates$Message" "loan" "I", Cond.fieldLink RX4 13 "LeaseGates$Hold" "loan" "I", Cond.fieldLink RX4 16 "LeaseGates$Hold" "asked" "I", Cond.fieldLink RX4 19 "LeaseGates$Message" "loanLength" "I", Cond.fieldLink RX4 22 "LeaseGates$Hold" "span" "I", Cond.fieldLink RX4 25 "LeaseGates$Message" "tokens" "I", Cond.fieldLink RX4 28 "LeaseGates$Hold" "tokens" "I", Cond.methodLink RX2 122 yJx4a65c_add_9ea2d, Cond.instanceMethod yJx4a65c_add_9ea2d, Cond.selects RJx4a65c yJx4a65c_add_9ea2d yJx4a65c_add_9ea2d, Cond.initialized RJx4a65c, Cond.code yJx4a65c_add_9ea2d cJx4a65c_add_9ea2d 2 (some .boolean), Cond.fieldLink RJx4a65c 63 "java/util/ArrayList" "modCount" "I", Cond.sameField "java/util/ArrayList" "java/util/AbstractList" "modCount" "I", Cond.fieldLink RJx4a65c 9 "java/util/ArrayList" "elementData" "[Ljava/lang/Object;", Cond.fieldLink RJx4a65c 48 "java/util/ArrayList" "size" "I", Cond.methodLink RJx4a65c 131 yJx4a65c_add_72be8, Cond.instanceMethod yJx4a65c_add_72be8, Cond.selects RJx4a65c yJx4a65c_add_72be8 yJx4a65c_add_72be8, Cond.code yJx4a65c_add_72be8 cJx4a65c_add_72be8 4 none, Cond.methodLink RJx4a65c 129 yJx4a65c_grow_d5877, Cond.instanceMethod yJx4a65c_grow_d5877, Cond.selects RJx4a65c yJx4a65c_grow_d5877 yJx4a65c_grow_d5877, Cond.code yJx4a65c_grow_d5877 cJx4a65c_grow_d5877 1 (some (.array (.object "java/lang/Object")))]
def wsX3_hearGrant_r3 : List Cond := [Cond.methodLink RJx4a65c 69 yJx4a65c_grow_92f84, Cond.instanceMethod yJx4a65c_grow_92f84, Cond.selects RJx4a65c yJx4a65c_grow_92f84 yJx4a65c_grow_92f84, Cond.code yJx4a65c_grow_92f84 cJx4a65c_grow_92f84 4 (some (.array (.object "java/lang/Object"))), Cond.fieldLink RJx4a65c 39 "java/util/ArrayList" "DEFAULTCAPACITY_EMPTY_ELEMENTDATA" "[Ljava/lang/Object;", Cond.methodLink RJx4a65c 79 Lib.Math.max.name, Cond.static Lib.Math.max.name, Cond.initialized "java/lang/Math", Cond.code Lib.Math.max.name Lib.Math.max.code 2 (some .int), Cond.classLink RJx4a65c 7 "java/lang/Object", Cond.methodLink RJx4a65c 73 yJ8_newLength_cabcc, Cond.static yJ8_newLength_cabcc, Cond.initialized RJ8, Cond.code yJ8_newLength_cabcc cJ8_newLength_cabcc 4 (some .int), Cond.methodLink RJ8 194 Lib.Math.max.name, Cond.constant RJ8 200 (2147483639), Cond.methodLink RJ8 201 yJ8_hugeLength_7cf53, Cond.static yJ8_hugeLength_7cf53, Cond.code yJ8_hugeLength_7cf53 cJ8_hugeLength_7cf53 3 (some .int), Cond.methodLink RJx4a65c 66 yJ7_copyOf_1904c, Cond.static yJ7_copyOf_1904c, Cond.initialized RJ7, Cond.code yJ7_copyOf_1904c cJ7_copyOf_1904c 2 (some (.array (.object "java/lang/Object"))), Cond.methodLink RJ7 86 ⟨"java/lang/Object", "getClass", "()Ljava/lang/Class;"⟩]
def wsX3_hearGrant_r4 : List Cond := [Cond.selects "[Ljava/lang/Object;" ⟨"java/lang/Object", "getClass", "()Ljava/lang/Class;"⟩ ⟨"java/lang/Object", "getClass", "()Ljava/lang/Class;"⟩, Cond.instanceMethod ⟨"java/lang/Object", "getClass", "()Ljava/lang/Class;"⟩, Cond.native ⟨"java/lang/Object", "getClass", "()Ljava/lang/Class;"⟩, Cond.methodLink RJ7 300 yJ7_copyOf_6403c, Cond.static yJ7_copyOf_6403c, Cond.code yJ7_copyOf_6403c cJ7_copyOf_6403c 4 (some (.array (.object "java/lang/Object"))), Cond.classLink RJ7 110 "[Ljava/lang/Object;", Cond.classLink RJ7 2 "java/lang/Object", Cond.methodLink RJ7 304 Lib.Math.min.name, Cond.static Lib.Math.min.name, Cond.code Lib.Math.min.name Lib.Math.min.code 2 (some .int), Cond.methodLink RJ7 150 arraycopyName, Cond.native arraycopyName, Cond.static arraycopyName, Cond.initialized "java/lang/System"]
def wsX3_hearGrant : List Cond := .code yX3_hearGrant cX3_hearGrant 2 (some .boolean) :: ((wsX3_hearGrant_r1 ++ (wsX3_hearGrant_r2 ++ (wsX3_hearGrant_r3 ++ wsX3_hearGrant_r4))) ++ wsX60 ++ wsX30 ++ wsX20 ++ wsX40 ++ wsJx4a65c0)
def wsX3_startAnew : List Cond := .code yX3_startAnew cX3_startAnew 2 (some .int) :: ([.fieldLink RX3 20 "LeaseGates$Gate" "desks" "[LLeaseGates$Desk;", .fieldLink RX3 35 "LeaseGates$Gate" "birth" "I", .methodLink RX3 53 yX2_clear, .instanceMethod yX2_clear, .selects RX2 yX2_clear yX2_clear, .initialized RX2, .code yX2_clear cX2_clear 1 none, .fieldLink RX2 12 "LeaseGates$Desk" "holds" "Ljava/util/ArrayList;", .fieldLink RX2 28 "LeaseGates$Desk" "demand" "I", .fieldLink RX2 31 "LeaseGates$Desk" "use" "I", .fieldLink RX2 34 "LeaseGates$Desk" "asks" "I", .fieldLink RX2 37 "LeaseGates$Desk" "open" "Z", .fieldLink RX2 41 "LeaseGates$Desk" "openSince" "I", .fieldLink RX2 44 "LeaseGates$Desk" "refusals" "I", .methodLink RX2 25 yJx4a65c_clear_da8c8, .instanceMethod yJx4a65c_clear_da8c8, .selects RJx4a65c yJx4a65c_clear_da8c8 yJx4a65c_clear_da8c8, .initialized RJx4a65c, .code yJx4a65c_clear_da8c8 cJx4a65c_clear_da8c8 4 none, .fieldLink RJx4a65c 63 "java/util/ArrayList" "modCount" "I", .sameField "java/util/ArrayList" "java/util/AbstractList" "modCount" "I", .fieldLink RJx4a65c 9 "java/util/ArrayList" "elementData" "[Ljava/lang/Object;", .fieldLink RJx4a65c 48 "java/util/ArrayList" "size" "I"] ++ wsX30 ++ wsX20 ++ wsJx4a65c0)
def wsX6_init_ : List Cond := .code yX6_init_ cX6_init_ 5 none :: ([.methodLink RX6 3 objectInit, .instanceMethod objectInit, .code objectInit ⟨#[0xb1]⟩ 1 none, .fieldLink RX6 9 "LeaseGates$Message" "kind" "I", .fieldLink RX6 15 "LeaseGates$Message" "gate" "I", .fieldLink RX6 18 "LeaseGates$Message" "key" "I", .fieldLink RX6 21 "LeaseGates$Message" "birth" "I", .fieldLink RX6 24 "LeaseGates$Message" "tokens" "I", .fieldLink RX6 27 "LeaseGates$Message" "count" "I", .fieldLink RX6 30 "LeaseGates$Message" "loan" "I", .fieldLink RX6 33 "LeaseGates$Message" "loanLength" "I"] ++ wsX60)
def wsX7_init : List Cond := .code yX7_init cX7_init 1 none :: ([.methodLink RX7 3 objectInit, .instanceMethod objectInit, .code objectInit ⟨#[0xb1]⟩ 1 none, .classLink RX7 9 RX6, .fieldLink RX7 11 "LeaseGates$Post" "slots" "[LLeaseGates$Message;"] ++ wsX70)
def wsX7_find : List Cond := .code yX7_find cX7_find 2 (some (.object "LeaseGates$Message")) :: ([.fieldLink RX7 17 "LeaseGates$Post" "count" "I", .fieldLink RX7 11 "LeaseGates$Post" "slots" "[LLeaseGates$Message;"] ++ wsX70)
def wsX7_discard : List Cond := .code yX7_discard cX7_discard 2 none :: ([.fieldLink RX7 17 "LeaseGates$Post" "count" "I", .fieldLink RX7 11 "LeaseGates$Post" "slots" "[LLeaseGates$Message;"] ++ wsX70)
def wsX8_init_r1 : List Cond := [Cond.methodLink RX8 3 objectInit, Cond.instanceMethod objectInit, Cond.code objectInit ⟨#[0xb1]⟩ 1 none, Cond.classLink RX8 9 RX9, Cond.instantiable RX9 2, Cond.initialized RX9, Cond.fieldLink RX8 12 "LeaseGates$Root" "ticker" "LLeaseGates$Ticker;", Cond.classLink RX8 18 RX1, Cond.fieldLink RX8 20 "LeaseGates$Root" "buckets" "[LLeaseGates$Bucket;", Cond.classLink RX8 24 RX0, Cond.fieldLink RX8 26 "LeaseGates$Root" "accounts" "[LLeaseGates$Account;", Cond.arrayClass .int, Cond.fieldLink RX8 30 "LeaseGates$Root" "births" "[I", Cond.fieldLink RX8 34 "LeaseGates$Root" "loanLength" "I", Cond.instantiable RX1 6, Cond.initialized RX1, Cond.instantiable RX0 4, Cond.initialized RX0, Cond.instanceMethod yX9_init, Cond.code yX9_init cX9_init 1 none, Cond.methodLink RX9 1 objectInit, Cond.fieldLink RX9 7 "LeaseGates$Ticker" "pace" "I", Cond.instanceMethod yX1_init, Cond.code yX1_init cX1_init 1 none]
def wsX8_init_r2 : List Cond := [Cond.methodLink RX1 3 objectInit, Cond.classLink RX1 9 RJx4a65c, Cond.instantiable RJx4a65c 3, Cond.initialized RJx4a65c, Cond.fieldLink RX1 12 "LeaseGates$Bucket" "loans" "Ljava/util/ArrayList;", Cond.methodLink RX1 11 yJx4a65c_init_da8c8, Cond.instanceMethod yJx4a65c_init_da8c8, Cond.code yJx4a65c_init_da8c8 cJx4a65c_init_da8c8 1 none, Cond.fieldLink RJx4a65c 39 "java/util/ArrayList" "DEFAULTCAPACITY_EMPTY_ELEMENTDATA" "[Ljava/lang/Object;", Cond.fieldLink RJx4a65c 9 "java/util/ArrayList" "elementData" "[Ljava/lang/Object;", Cond.methodLink RJx4a65c 1 yJxc12de_init_da8c8, Cond.instanceMethod yJxc12de_init_da8c8, Cond.initialized RJxc12de, Cond.code yJxc12de_init_da8c8 cJxc12de_init_da8c8 1 none, Cond.fieldLink RJxc12de 7 "java/util/AbstractList" "modCount" "I", Cond.methodLink RJxc12de 1 yJxa1e45_init_da8c8, Cond.instanceMethod yJxa1e45_init_da8c8, Cond.initialized RJxa1e45, Cond.code yJxa1e45_init_da8c8 cJxa1e45_init_da8c8 1 none, Cond.methodLink RJxa1e45 1 objectInit, Cond.instanceMethod yX0_init, Cond.code yX0_init cX0_init 1 none, Cond.methodLink RX0 1 objectInit, Cond.fieldLink RX0 7 "LeaseGates$Account" "share" "I"]
def wsX8_init : List Cond := .code yX8_init cX8_init 2 none :: ((wsX8_init_r1 ++ wsX8_init_r2) ++ wsX90 ++ wsX80 ++ wsX10 ++ wsX00 ++ wsJx4a65c0)
def wsX8_accountOf : List Cond := .code yX8_accountOf cX8_accountOf 3 (some (.object "LeaseGates$Account")) :: ([.fieldLink RX8 26 "LeaseGates$Root" "accounts" "[LLeaseGates$Account;"] ++ wsX80)
def wsX9_advance : List Cond := .code yX9_advance cX9_advance 2 none :: ([.fieldLink RX9 13 "LeaseGates$Ticker" "thousandths" "J", .fieldLink RX9 7 "LeaseGates$Ticker" "pace" "I"] ++ wsX90)
def wsX8_advance_r1 : List Cond := [Cond.fieldLink RX8 12 "LeaseGates$Root" "ticker" "LLeaseGates$Ticker;", Cond.fieldLink RX8 20 "LeaseGates$Root" "buckets" "[LLeaseGates$Bucket;", Cond.methodLink RX8 40 yX9_now, Cond.instanceMethod yX9_now, Cond.selects RX9 yX9_now yX9_now, Cond.initialized RX9, Cond.code yX9_now cX9_now 1 (some .int), Cond.fieldLink RX9 13 "LeaseGates$Ticker" "thousandths" "J", Cond.constantLong RX9 17 (1000), Cond.methodLink RX8 44 yX9_advance, Cond.instanceMethod yX9_advance, Cond.selects RX9 yX9_advance yX9_advance, Cond.code yX9_advance cX9_advance 2 none, Cond.fieldLink RX9 7 "LeaseGates$Ticker" "pace" "I", Cond.methodLink RX8 48 yX1_pass, Cond.instanceMethod yX1_pass, Cond.selects RX1 yX1_pass yX1_pass, Cond.initialized RX1, Cond.code yX1_pass cX1_pass 7 none, Cond.fieldLink RX1 12 "LeaseGates$Bucket" "loans" "Ljava/util/ArrayList;", Cond.classLink RX1 57 "LeaseGates$Loan", Cond.fieldLink RX1 59 "LeaseGates$Loan" "end" "I", Cond.fieldLink RX1 18 "LeaseGates$Bucket" "rate" "I", Cond.methodLink RX1 46 yJx4a65c_size_8abf5]
def wsX8_advance_r2 : List Cond := [Cond.instanceMethod yJx4a65c_size_8abf5, Cond.selects RJx4a65c yJx4a65c_size_8abf5 yJx4a65c_size_8abf5, Cond.initialized RJx4a65c, Cond.code yJx4a65c_size_8abf5 cJx4a65c_size_8abf5 1 (some .int), Cond.fieldLink RJx4a65c 48 "java/util/ArrayList" "size" "I", Cond.methodLink RX1 50 yX1_loanThatEndsFirst, Cond.instanceMethod yX1_loanThatEndsFirst, Cond.selects RX1 yX1_loanThatEndsFirst yX1_loanThatEndsFirst, Cond.code yX1_loanThatEndsFirst cX1_loanThatEndsFirst 3 (some .int), Cond.methodLink RX1 53 yJx4a65c_get_915e3, Cond.instanceMethod yJx4a65c_get_915e3, Cond.selects RJx4a65c yJx4a65c_get_915e3 yJx4a65c_get_915e3, Cond.code yJx4a65c_get_915e3 cJx4a65c_get_915e3 2 (some (.object "java/lang/Object")), Cond.methodLink RJx4a65c 118 yJ15_checkIndex_7cf53, Cond.static yJ15_checkIndex_7cf53, Cond.initialized RJ15, Cond.code yJ15_checkIndex_7cf53 cJ15_checkIndex_7cf53 2 (some .int), Cond.methodLink RJ15 105 yJ3_checkIndex_8e157, Cond.static yJ3_checkIndex_8e157, Cond.initialized RJ3, Cond.code yJ3_checkIndex_8e157 cJ3_checkIndex_8e157 3 (some .int), Cond.methodLink RJx4a65c 123 yJx4a65c_elementData_915e3, Cond.instanceMethod yJx4a65c_elementData_915e3, Cond.selects RJx4a65c yJx4a65c_elementData_915e3 yJx4a65c_elementData_915e3]
def wsX8_advance_r3 : List Cond := [Cond.code yJx4a65c_elementData_915e3 cJx4a65c_elementData_915e3 2 (some (.object "java/lang/Object")), Cond.fieldLink RJx4a65c 9 "java/util/ArrayList" "elementData" "[Ljava/lang/Object;", Cond.methodLink RX1 25 yX1_fill, Cond.instanceMethod yX1_fill, Cond.selects RX1 yX1_fill yX1_fill, Cond.code yX1_fill cX1_fill 5 none, Cond.constantLong RX1 29 (1000), Cond.fieldLink RX1 22 "LeaseGates$Bucket" "burst" "I", Cond.fieldLink RX1 31 "LeaseGates$Bucket" "lent" "I", Cond.methodLink RX1 34 Lib.MathLoose.max_long.x, Cond.static Lib.MathLoose.max_long.x, Cond.initialized "java/lang/Math", Cond.code Lib.MathLoose.max_long.x Lib.MathLoose.max_long.code 4 (some .long), Cond.fieldLink RX1 40 "LeaseGates$Bucket" "level" "I", Cond.methodLink RX1 43 Lib.MathLoose.min_long.x, Cond.static Lib.MathLoose.min_long.x, Cond.code Lib.MathLoose.min_long.x Lib.MathLoose.min_long.code 4 (some .long), Cond.methodLink RX1 62 yX1_close, Cond.instanceMethod yX1_close, Cond.selects RX1 yX1_close yX1_close, Cond.code yX1_close cX1_close 2 none, Cond.fieldLink RX1 66 "LeaseGates$Loan" "tokens" "I", Cond.methodLink RX1 69 yJx4a65c_remove_915e3, Cond.instanceMethod yJx4a65c_remove_915e3]
def wsX8_advance_r4 : List Cond := [Cond.selects RJx4a65c yJx4a65c_remove_915e3 yJx4a65c_remove_915e3, Cond.code yJx4a65c_remove_915e3 cJx4a65c_remove_915e3 4 (some (.object "java/lang/Object")), Cond.methodLink RJx4a65c 144 yJx4a65c_fastRemove_b59b0, Cond.instanceMethod yJx4a65c_fastRemove_b59b0, Cond.selects RJx4a65c yJx4a65c_fastRemove_b59b0 yJx4a65c_fastRemove_b59b0, Cond.code yJx4a65c_fastRemove_b59b0 cJx4a65c_fastRemove_b59b0 4 none, Cond.fieldLink RJx4a65c 63 "java/util/ArrayList" "modCount" "I", Cond.sameField "java/util/ArrayList" "java/util/AbstractList" "modCount" "I", Cond.methodLink RJx4a65c 112 arraycopyName, Cond.native arraycopyName, Cond.static arraycopyName, Cond.initialized "java/lang/System"]
def wsX8_advance : List Cond := .code yX8_advance cX8_advance 4 none :: ((wsX8_advance_r1 ++ (wsX8_advance_r2 ++ (wsX8_advance_r3 ++ wsX8_advance_r4))) ++ wsX80 ++ wsX90 ++ wsX10 ++ wsX50 ++ wsJx4a65c0)
def wsX8_forgetAnswers : List Cond := .code yX8_forgetAnswers cX8_forgetAnswers 3 none :: ([.fieldLink RX8 70 "LeaseGates$Account" "answer" "LLeaseGates$Message;", .methodLink RX8 66 yX8_accountOf, .instanceMethod yX8_accountOf, .selects RX8 yX8_accountOf yX8_accountOf, .initialized RX8, .code yX8_accountOf cX8_accountOf 3 (some (.object "LeaseGates$Account")), .fieldLink RX8 26 "LeaseGates$Root" "accounts" "[LLeaseGates$Account;"] ++ wsX00 ++ wsX80)
def wsX8_shareOf : List Cond := .code yX8_shareOf cX8_shareOf 7 (some .int) :: ([.fieldLink RX8 12 "LeaseGates$Root" "ticker" "LLeaseGates$Ticker;", .fieldLink RX8 100 "LeaseGates$Account" "share" "I", .methodLink RX8 66 yX8_accountOf, .instanceMethod yX8_accountOf, .selects RX8 yX8_accountOf yX8_accountOf, .initialized RX8, .code yX8_accountOf cX8_accountOf 3 (some (.object "LeaseGates$Account")), .fieldLink RX8 26 "LeaseGates$Root" "accounts" "[LLeaseGates$Account;", .methodLink RX8 40 yX9_now, .instanceMethod yX9_now, .selects RX9 yX9_now yX9_now, .initialized RX9, .code yX9_now cX9_now 1 (some .int), .fieldLink RX9 13 "LeaseGates$Ticker" "thousandths" "J", .constantLong RX9 17 (1000), .methodLink RX8 117 yX0_askedOfLate, .instanceMethod yX0_askedOfLate, .selects RX0 yX0_askedOfLate yX0_askedOfLate, .initialized RX0, .code yX0_askedOfLate cX0_askedOfLate 2 (some .boolean), .fieldLink RX0 13 "LeaseGates$Account" "asked" "Z", .fieldLink RX0 17 "LeaseGates$Account" "askedAt" "I"] ++ wsX80 ++ wsX00 ++ wsX90)
def wsX8_answerTo_r1 : List Cond := [Cond.fieldLink RX8 87 "LeaseGates$Account" "asked" "Z", Cond.fieldLink RX8 12 "LeaseGates$Root" "ticker" "LLeaseGates$Ticker;", Cond.fieldLink RX8 91 "LeaseGates$Account" "askedAt" "I", Cond.fieldLink RX8 20 "LeaseGates$Root" "buckets" "[LLeaseGates$Bucket;", Cond.fieldLink RX8 63 "LeaseGates$Message" "key" "I", Cond.fieldLink RX8 97 "LeaseGates$Message" "tokens" "I", Cond.fieldLink RX8 100 "LeaseGates$Account" "share" "I", Cond.classLink RX8 53 RX6, Cond.instantiable RX6 8, Cond.initialized RX6, Cond.fieldLink RX8 34 "LeaseGates$Root" "loanLength" "I", Cond.fieldLink RX8 110 "LeaseGates$Root" "loansSoFar" "I", Cond.methodLink RX8 40 yX9_now, Cond.instanceMethod yX9_now, Cond.selects RX9 yX9_now yX9_now, Cond.initialized RX9, Cond.code yX9_now cX9_now 1 (some .int), Cond.fieldLink RX9 13 "LeaseGates$Ticker" "thousandths" "J", Cond.constantLong RX9 17 (1000), Cond.methodLink RX8 94 yX1_free, Cond.instanceMethod yX1_free, Cond.selects RX1 yX1_free yX1_free, Cond.initialized RX1, Cond.code yX1_free cX1_free 1 (some .int)]
def wsX8_answerTo_r2 : List Cond := [Cond.fieldLink RX1 40 "LeaseGates$Bucket" "level" "I", Cond.methodLink RX8 103 yX8_shareOf, Cond.instanceMethod yX8_shareOf, Cond.selects RX8 yX8_shareOf yX8_shareOf, Cond.initialized RX8, Cond.code yX8_shareOf cX8_shareOf 7 (some .int), Cond.methodLink RX8 66 yX8_accountOf, Cond.instanceMethod yX8_accountOf, Cond.selects RX8 yX8_accountOf yX8_accountOf, Cond.code yX8_accountOf cX8_accountOf 3 (some (.object "LeaseGates$Account")), Cond.fieldLink RX8 26 "LeaseGates$Root" "accounts" "[LLeaseGates$Account;", Cond.methodLink RX8 117 yX0_askedOfLate, Cond.instanceMethod yX0_askedOfLate, Cond.selects RX0 yX0_askedOfLate yX0_askedOfLate, Cond.initialized RX0, Cond.code yX0_askedOfLate cX0_askedOfLate 2 (some .boolean), Cond.fieldLink RX0 13 "LeaseGates$Account" "asked" "Z", Cond.fieldLink RX0 17 "LeaseGates$Account" "askedAt" "I", Cond.methodLink RX8 107 yX6_init_, Cond.instanceMethod yX6_init_, Cond.code yX6_init_ cX6_init_ 5 none, Cond.methodLink RX6 3 objectInit, Cond.instanceMethod objectInit, Cond.code objectInit ⟨#[0xb1]⟩ 1 none]
def wsX8_answerTo_r3 : List Cond := [Cond.fieldLink RX6 9 "LeaseGates$Message" "kind" "I", Cond.fieldLink RX6 15 "LeaseGates$Message" "gate" "I", Cond.fieldLink RX6 18 "LeaseGates$Message" "key" "I", Cond.fieldLink RX6 21 "LeaseGates$Message" "birth" "I", Cond.fieldLink RX6 24 "LeaseGates$Message" "tokens" "I", Cond.fieldLink RX6 27 "LeaseGates$Message" "count" "I", Cond.fieldLink RX6 30 "LeaseGates$Message" "loan" "I", Cond.fieldLink RX6 33 "LeaseGates$Message" "loanLength" "I", Cond.methodLink RX8 113 yX1_lend, Cond.instanceMethod yX1_lend, Cond.selects RX1 yX1_lend yX1_lend, Cond.code yX1_lend cX1_lend 4 none, Cond.fieldLink RX1 31 "LeaseGates$Bucket" "lent" "I", Cond.fieldLink RX1 12 "LeaseGates$Bucket" "loans" "Ljava/util/ArrayList;", Cond.classLink RX1 57 RX5, Cond.instantiable RX5 3, Cond.initialized RX5, Cond.methodLink RX1 72 yX5_init, Cond.instanceMethod yX5_init, Cond.code yX5_init cX5_init 4 none, Cond.methodLink RX5 1 objectInit, Cond.fieldLink RX5 7 "LeaseGates$Loan" "number" "I", Cond.fieldLink RX5 13 "LeaseGates$Loan" "tokens" "I", Cond.fieldLink RX5 16 "LeaseGates$Loan" "end" "I"]
def wsX8_answerTo_r4 : List Cond := [Cond.methodLink RX1 75 yJx4a65c_add_9ea2d, Cond.instanceMethod yJx4a65c_add_9ea2d, Cond.selects RJx4a65c yJx4a65c_add_9ea2d yJx4a65c_add_9ea2d, Cond.initialized RJx4a65c, Cond.code yJx4a65c_add_9ea2d cJx4a65c_add_9ea2d 2 (some .boolean), Cond.fieldLink RJx4a65c 63 "java/util/ArrayList" "modCount" "I", Cond.sameField "java/util/ArrayList" "java/util/AbstractList" "modCount" "I", Cond.fieldLink RJx4a65c 9 "java/util/ArrayList" "elementData" "[Ljava/lang/Object;", Cond.fieldLink RJx4a65c 48 "java/util/ArrayList" "size" "I", Cond.methodLink RJx4a65c 131 yJx4a65c_add_72be8, Cond.instanceMethod yJx4a65c_add_72be8, Cond.selects RJx4a65c yJx4a65c_add_72be8 yJx4a65c_add_72be8, Cond.code yJx4a65c_add_72be8 cJx4a65c_add_72be8 4 none, Cond.methodLink RJx4a65c 129 yJx4a65c_grow_d5877, Cond.instanceMethod yJx4a65c_grow_d5877, Cond.selects RJx4a65c yJx4a65c_grow_d5877 yJx4a65c_grow_d5877, Cond.code yJx4a65c_grow_d5877 cJx4a65c_grow_d5877 1 (some (.array (.object "java/lang/Object"))), Cond.methodLink RJx4a65c 69 yJx4a65c_grow_92f84, Cond.instanceMethod yJx4a65c_grow_92f84, Cond.selects RJx4a65c yJx4a65c_grow_92f84 yJx4a65c_grow_92f84, Cond.code yJx4a65c_grow_92f84 cJx4a65c_grow_92f84 4 (some (.array (.object "java/lang/Object"))), Cond.fieldLink RJx4a65c 39 "java/util/ArrayList" "DEFAULTCAPACITY_EMPTY_ELEMENTDATA" "[Ljava/lang/Object;", Cond.methodLink RJx4a65c 79 Lib.Math.max.name, Cond.static Lib.Math.max.name]
def wsX8_answerTo_r5 : List Cond := [Cond.initialized "java/lang/Math", Cond.code Lib.Math.max.name Lib.Math.max.code 2 (some .int), Cond.classLink RJx4a65c 7 "java/lang/Object", Cond.methodLink RJx4a65c 73 yJ8_newLength_cabcc, Cond.static yJ8_newLength_cabcc, Cond.initialized RJ8, Cond.code yJ8_newLength_cabcc cJ8_newLength_cabcc 4 (some .int), Cond.methodLink RJ8 194 Lib.Math.max.name, Cond.constant RJ8 200 (2147483639), Cond.methodLink RJ8 201 yJ8_hugeLength_7cf53, Cond.static yJ8_hugeLength_7cf53, Cond.code yJ8_hugeLength_7cf53 cJ8_hugeLength_7cf53 3 (some .int), Cond.methodLink RJx4a65c 66 yJ7_copyOf_1904c, Cond.static yJ7_copyOf_1904c, Cond.initialized RJ7, Cond.code yJ7_copyOf_1904c cJ7_copyOf_1904c 2 (some (.array (.object "java/lang/Object"))), Cond.methodLink RJ7 86 ⟨"java/lang/Object", "getClass", "()Ljava/lang/Class;"⟩, Cond.selects "[Ljava/lang/Object;" ⟨"java/lang/Object", "getClass", "()Ljava/lang/Class;"⟩ ⟨"java/lang/Object", "getClass", "()Ljava/lang/Class;"⟩, Cond.instanceMethod ⟨"java/lang/Object", "getClass", "()Ljava/lang/Class;"⟩, Cond.native ⟨"java/lang/Object", "getClass", "()Ljava/lang/Class;"⟩, Cond.methodLink RJ7 300 yJ7_copyOf_6403c, Cond.static yJ7_copyOf_6403c, Cond.code yJ7_copyOf_6403c cJ7_copyOf_6403c 4 (some (.array (.object "java/lang/Object"))), Cond.classLink RJ7 110 "[Ljava/lang/Object;"]
def wsX8_answerTo_r6 : List Cond := [Cond.classLink RJ7 2 "java/lang/Object", Cond.methodLink RJ7 304 Lib.Math.min.name, Cond.static Lib.Math.min.name, Cond.code Lib.Math.min.name Lib.Math.min.code 2 (some .int), Cond.methodLink RJ7 150 arraycopyName, Cond.native arraycopyName, Cond.static arraycopyName, Cond.initialized "java/lang/System"]
def wsX8_answerTo : List Cond := .code yX8_answerTo cX8_answerTo 7 (some (.object "LeaseGates$Message")) :: ((wsX8_answerTo_r1 ++ (wsX8_answerTo_r2 ++ (wsX8_answerTo_r3 ++ (wsX8_answerTo_r4 ++ (wsX8_answerTo_r5 ++ wsX8_answerTo_r6))))) ++ wsX00 ++ wsX80 ++ wsX60 ++ wsX90 ++ wsX10 ++ wsX50 ++ wsJx4a65c0)
def wsX8_hearAsk_r1 : List Cond := [Cond.fieldLink RX8 52 "LeaseGates$Message" "birth" "I", Cond.fieldLink RX8 30 "LeaseGates$Root" "births" "[I", Cond.fieldLink RX8 57 "LeaseGates$Message" "gate" "I", Cond.fieldLink RX8 63 "LeaseGates$Message" "key" "I", Cond.fieldLink RX8 70 "LeaseGates$Account" "answer" "LLeaseGates$Message;", Cond.fieldLink RX8 74 "LeaseGates$Message" "count" "I", Cond.methodLink RX8 60 yX8_forgetAnswers, Cond.instanceMethod yX8_forgetAnswers, Cond.selects RX8 yX8_forgetAnswers yX8_forgetAnswers, Cond.initialized RX8, Cond.code yX8_forgetAnswers cX8_forgetAnswers 3 none, Cond.methodLink RX8 66 yX8_accountOf, Cond.instanceMethod yX8_accountOf, Cond.selects RX8 yX8_accountOf yX8_accountOf, Cond.code yX8_accountOf cX8_accountOf 3 (some (.object "LeaseGates$Account")), Cond.fieldLink RX8 26 "LeaseGates$Root" "accounts" "[LLeaseGates$Account;", Cond.methodLink RX8 77 yX8_answerTo, Cond.instanceMethod yX8_answerTo, Cond.selects RX8 yX8_answerTo yX8_answerTo, Cond.code yX8_answerTo cX8_answerTo 7 (some (.object "LeaseGates$Message")), Cond.fieldLink RX8 87 "LeaseGates$Account" "asked" "Z", Cond.fieldLink RX8 12 "LeaseGates$Root" "ticker" "LLeaseGates$Ticker;", Cond.fieldLink RX8 91 "LeaseGates$Account" "askedAt" "I", Cond.fieldLink RX8 20 "LeaseGates$Root" "buckets" "[LLeaseGates$Bucket;"]
def wsX8_hearAsk_r2 : List Cond := [Cond.fieldLink RX8 97 "LeaseGates$Message" "tokens" "I", Cond.fieldLink RX8 100 "LeaseGates$Account" "share" "I", Cond.classLink RX8 53 RX6, Cond.instantiable RX6 8, Cond.initialized RX6, Cond.fieldLink RX8 34 "LeaseGates$Root" "loanLength" "I", Cond.fieldLink RX8 110 "LeaseGates$Root" "loansSoFar" "I", Cond.methodLink RX8 40 yX9_now, Cond.instanceMethod yX9_now, Cond.selects RX9 yX9_now yX9_now, Cond.initialized RX9, Cond.code yX9_now cX9_now 1 (some .int), Cond.fieldLink RX9 13 "LeaseGates$Ticker" "thousandths" "J", Cond.constantLong RX9 17 (1000), Cond.methodLink RX8 94 yX1_free, Cond.instanceMethod yX1_free, Cond.selects RX1 yX1_free yX1_free, Cond.initialized RX1, Cond.code yX1_free cX1_free 1 (some .int), Cond.fieldLink RX1 40 "LeaseGates$Bucket" "level" "I", Cond.methodLink RX8 103 yX8_shareOf, Cond.instanceMethod yX8_shareOf, Cond.selects RX8 yX8_shareOf yX8_shareOf, Cond.code yX8_shareOf cX8_shareOf 7 (some .int)]
def wsX8_hearAsk_r3 : List Cond := [Cond.methodLink RX8 117 yX0_askedOfLate, Cond.instanceMethod yX0_askedOfLate, Cond.selects RX0 yX0_askedOfLate yX0_askedOfLate, Cond.initialized RX0, Cond.code yX0_askedOfLate cX0_askedOfLate 2 (some .boolean), Cond.fieldLink RX0 13 "LeaseGates$Account" "asked" "Z", Cond.fieldLink RX0 17 "LeaseGates$Account" "askedAt" "I", Cond.methodLink RX8 107 yX6_init_, Cond.instanceMethod yX6_init_, Cond.code yX6_init_ cX6_init_ 5 none, Cond.methodLink RX6 3 objectInit, Cond.instanceMethod objectInit, Cond.code objectInit ⟨#[0xb1]⟩ 1 none, Cond.fieldLink RX6 9 "LeaseGates$Message" "kind" "I", Cond.fieldLink RX6 15 "LeaseGates$Message" "gate" "I", Cond.fieldLink RX6 18 "LeaseGates$Message" "key" "I", Cond.fieldLink RX6 21 "LeaseGates$Message" "birth" "I", Cond.fieldLink RX6 24 "LeaseGates$Message" "tokens" "I", Cond.fieldLink RX6 27 "LeaseGates$Message" "count" "I", Cond.fieldLink RX6 30 "LeaseGates$Message" "loan" "I", Cond.fieldLink RX6 33 "LeaseGates$Message" "loanLength" "I", Cond.methodLink RX8 113 yX1_lend, Cond.instanceMethod yX1_lend, Cond.selects RX1 yX1_lend yX1_lend]
def wsX8_hearAsk_r4 : List Cond := [Cond.code yX1_lend cX1_lend 4 none, Cond.fieldLink RX1 31 "LeaseGates$Bucket" "lent" "I", Cond.fieldLink RX1 12 "LeaseGates$Bucket" "loans" "Ljava/util/ArrayList;", Cond.classLink RX1 57 RX5, Cond.instantiable RX5 3, Cond.initialized RX5, Cond.methodLink RX1 72 yX5_init, Cond.instanceMethod yX5_init, Cond.code yX5_init cX5_init 4 none, Cond.methodLink RX5 1 objectInit, Cond.fieldLink RX5 7 "LeaseGates$Loan" "number" "I", Cond.fieldLink RX5 13 "LeaseGates$Loan" "tokens" "I", Cond.fieldLink RX5 16 "LeaseGates$Loan" "end" "I", Cond.methodLink RX1 75 yJx4a65c_add_9ea2d, Cond.instanceMethod yJx4a65c_add_9ea2d, Cond.selects RJx4a65c yJx4a65c_add_9ea2d yJx4a65c_add_9ea2d, Cond.initialized RJx4a65c, Cond.code yJx4a65c_add_9ea2d cJx4a65c_add_9ea2d 2 (some .boolean), Cond.fieldLink RJx4a65c 63 "java/util/ArrayList" "modCount" "I", Cond.sameField "java/util/ArrayList" "java/util/AbstractList" "modCount" "I", Cond.fieldLink RJx4a65c 9 "java/util/ArrayList" "elementData" "[Ljava/lang/Object;", Cond.fieldLink RJx4a65c 48 "java/util/ArrayList" "size" "I", Cond.methodLink RJx4a65c 131 yJx4a65c_add_72be8, Cond.instanceMethod yJx4a65c_add_72be8]
def wsX8_hearAsk_r5 : List Cond := [Cond.selects RJx4a65c yJx4a65c_add_72be8 yJx4a65c_add_72be8, Cond.code yJx4a65c_add_72be8 cJx4a65c_add_72be8 4 none, Cond.methodLink RJx4a65c 129 yJx4a65c_grow_d5877, Cond.instanceMethod yJx4a65c_grow_d5877, Cond.selects RJx4a65c yJx4a65c_grow_d5877 yJx4a65c_grow_d5877, Cond.code yJx4a65c_grow_d5877 cJx4a65c_grow_d5877 1 (some (.array (.object "java/lang/Object"))), Cond.methodLink RJx4a65c 69 yJx4a65c_grow_92f84, Cond.instanceMethod yJx4a65c_grow_92f84, Cond.selects RJx4a65c yJx4a65c_grow_92f84 yJx4a65c_grow_92f84, Cond.code yJx4a65c_grow_92f84 cJx4a65c_grow_92f84 4 (some (.array (.object "java/lang/Object"))), Cond.fieldLink RJx4a65c 39 "java/util/ArrayList" "DEFAULTCAPACITY_EMPTY_ELEMENTDATA" "[Ljava/lang/Object;", Cond.methodLink RJx4a65c 79 Lib.Math.max.name, Cond.static Lib.Math.max.name, Cond.initialized "java/lang/Math", Cond.code Lib.Math.max.name Lib.Math.max.code 2 (some .int), Cond.classLink RJx4a65c 7 "java/lang/Object", Cond.methodLink RJx4a65c 73 yJ8_newLength_cabcc, Cond.static yJ8_newLength_cabcc, Cond.initialized RJ8, Cond.code yJ8_newLength_cabcc cJ8_newLength_cabcc 4 (some .int), Cond.methodLink RJ8 194 Lib.Math.max.name, Cond.constant RJ8 200 (2147483639), Cond.methodLink RJ8 201 yJ8_hugeLength_7cf53, Cond.static yJ8_hugeLength_7cf53]
def wsX8_hearAsk_r6 : List Cond := [Cond.code yJ8_hugeLength_7cf53 cJ8_hugeLength_7cf53 3 (some .int), Cond.methodLink RJx4a65c 66 yJ7_copyOf_1904c, Cond.static yJ7_copyOf_1904c, Cond.initialized RJ7, Cond.code yJ7_copyOf_1904c cJ7_copyOf_1904c 2 (some (.array (.object "java/lang/Object"))), Cond.methodLink RJ7 86 ⟨"java/lang/Object", "getClass", "()Ljava/lang/Class;"⟩, Cond.selects "[Ljava/lang/Object;" ⟨"java/lang/Object", "getClass", "()Ljava/lang/Class;"⟩ ⟨"java/lang/Object", "getClass", "()Ljava/lang/Class;"⟩, Cond.instanceMethod ⟨"java/lang/Object", "getClass", "()Ljava/lang/Class;"⟩, Cond.native ⟨"java/lang/Object", "getClass", "()Ljava/lang/Class;"⟩, Cond.methodLink RJ7 300 yJ7_copyOf_6403c, Cond.static yJ7_copyOf_6403c, Cond.code yJ7_copyOf_6403c cJ7_copyOf_6403c 4 (some (.array (.object "java/lang/Object"))), Cond.classLink RJ7 110 "[Ljava/lang/Object;", Cond.classLink RJ7 2 "java/lang/Object", Cond.methodLink RJ7 304 Lib.Math.min.name, Cond.static Lib.Math.min.name, Cond.code Lib.Math.min.name Lib.Math.min.code 2 (some .int), Cond.methodLink RJ7 150 arraycopyName, Cond.native arraycopyName, Cond.static arraycopyName, Cond.initialized "java/lang/System", Cond.methodLink RX8 81 yX7_send, Cond.instanceMethod yX7_send, Cond.selects RX7 yX7_send yX7_send]
def wsX8_hearAsk_r7 : List Cond := [Cond.initialized RX7, Cond.code yX7_send cX7_send 2 none, Cond.fieldLink RX7 17 "LeaseGates$Post" "count" "I", Cond.fieldLink RX7 11 "LeaseGates$Post" "slots" "[LLeaseGates$Message;"]
def wsX8_hearAsk : List Cond := .code yX8_hearAsk cX8_hearAsk 4 (some .boolean) :: ((wsX8_hearAsk_r1 ++ (wsX8_hearAsk_r2 ++ (wsX8_hearAsk_r3 ++ (wsX8_hearAsk_r4 ++ (wsX8_hearAsk_r5 ++ (wsX8_hearAsk_r6 ++ wsX8_hearAsk_r7)))))) ++ wsX60 ++ wsX80 ++ wsX00 ++ wsX90 ++ wsX10 ++ wsX50 ++ wsJx4a65c0 ++ wsX70)
def wsX8_hearReturn_r1 : List Cond := [Cond.fieldLink RX8 52 "LeaseGates$Message" "birth" "I", Cond.fieldLink RX8 30 "LeaseGates$Root" "births" "[I", Cond.fieldLink RX8 57 "LeaseGates$Message" "gate" "I", Cond.fieldLink RX8 20 "LeaseGates$Root" "buckets" "[LLeaseGates$Bucket;", Cond.fieldLink RX8 63 "LeaseGates$Message" "key" "I", Cond.fieldLink RX8 121 "LeaseGates$Message" "loan" "I", Cond.fieldLink RX8 97 "LeaseGates$Message" "tokens" "I", Cond.methodLink RX8 124 yX1_bringBack, Cond.instanceMethod yX1_bringBack, Cond.selects RX1 yX1_bringBack yX1_bringBack, Cond.initialized RX1, Cond.code yX1_bringBack cX1_bringBack 4 (some .boolean), Cond.fieldLink RX1 12 "LeaseGates$Bucket" "loans" "Ljava/util/ArrayList;", Cond.classLink RX1 57 "LeaseGates$Loan", Cond.fieldLink RX1 79 "LeaseGates$Loan" "number" "I", Cond.constantLong RX1 29 (1000), Cond.methodLink RX1 46 yJx4a65c_size_8abf5, Cond.instanceMethod yJx4a65c_size_8abf5, Cond.selects RJx4a65c yJx4a65c_size_8abf5 yJx4a65c_size_8abf5, Cond.initialized RJx4a65c, Cond.code yJx4a65c_size_8abf5 cJx4a65c_size_8abf5 1 (some .int), Cond.fieldLink RJx4a65c 48 "java/util/ArrayList" "size" "I", Cond.methodLink RX1 53 yJx4a65c_get_915e3, Cond.instanceMethod yJx4a65c_get_915e3]
def wsX8_hearReturn_r2 : List Cond := [Cond.selects RJx4a65c yJx4a65c_get_915e3 yJx4a65c_get_915e3, Cond.code yJx4a65c_get_915e3 cJx4a65c_get_915e3 2 (some (.object "java/lang/Object")), Cond.methodLink RJx4a65c 118 yJ15_checkIndex_7cf53, Cond.static yJ15_checkIndex_7cf53, Cond.initialized RJ15, Cond.code yJ15_checkIndex_7cf53 cJ15_checkIndex_7cf53 2 (some .int), Cond.methodLink RJ15 105 yJ3_checkIndex_8e157, Cond.static yJ3_checkIndex_8e157, Cond.initialized RJ3, Cond.code yJ3_checkIndex_8e157 cJ3_checkIndex_8e157 3 (some .int), Cond.methodLink RJx4a65c 123 yJx4a65c_elementData_915e3, Cond.instanceMethod yJx4a65c_elementData_915e3, Cond.selects RJx4a65c yJx4a65c_elementData_915e3 yJx4a65c_elementData_915e3, Cond.code yJx4a65c_elementData_915e3 cJx4a65c_elementData_915e3 2 (some (.object "java/lang/Object")), Cond.fieldLink RJx4a65c 9 "java/util/ArrayList" "elementData" "[Ljava/lang/Object;", Cond.methodLink RX1 62 yX1_close, Cond.instanceMethod yX1_close, Cond.selects RX1 yX1_close yX1_close, Cond.code yX1_close cX1_close 2 none, Cond.fieldLink RX1 31 "LeaseGates$Bucket" "lent" "I", Cond.fieldLink RX1 66 "LeaseGates$Loan" "tokens" "I", Cond.methodLink RX1 69 yJx4a65c_remove_915e3, Cond.instanceMethod yJx4a65c_remove_915e3, Cond.selects RJx4a65c yJx4a65c_remove_915e3 yJx4a65c_remove_915e3]
def wsX8_hearReturn_r3 : List Cond := [Cond.code yJx4a65c_remove_915e3 cJx4a65c_remove_915e3 4 (some (.object "java/lang/Object")), Cond.methodLink RJx4a65c 144 yJx4a65c_fastRemove_b59b0, Cond.instanceMethod yJx4a65c_fastRemove_b59b0, Cond.selects RJx4a65c yJx4a65c_fastRemove_b59b0 yJx4a65c_fastRemove_b59b0, Cond.code yJx4a65c_fastRemove_b59b0 cJx4a65c_fastRemove_b59b0 4 none, Cond.fieldLink RJx4a65c 63 "java/util/ArrayList" "modCount" "I", Cond.sameField "java/util/ArrayList" "java/util/AbstractList" "modCount" "I", Cond.methodLink RJx4a65c 112 arraycopyName, Cond.native arraycopyName, Cond.static arraycopyName, Cond.initialized "java/lang/System", Cond.methodLink RX1 25 yX1_fill, Cond.instanceMethod yX1_fill, Cond.selects RX1 yX1_fill yX1_fill, Cond.code yX1_fill cX1_fill 5 none, Cond.fieldLink RX1 22 "LeaseGates$Bucket" "burst" "I", Cond.methodLink RX1 34 Lib.MathLoose.max_long.x, Cond.static Lib.MathLoose.max_long.x, Cond.initialized "java/lang/Math", Cond.code Lib.MathLoose.max_long.x Lib.MathLoose.max_long.code 4 (some .long), Cond.fieldLink RX1 40 "LeaseGates$Bucket" "level" "I", Cond.methodLink RX1 43 Lib.MathLoose.min_long.x, Cond.static Lib.MathLoose.min_long.x, Cond.code Lib.MathLoose.min_long.x Lib.MathLoose.min_long.code 4 (some .long)]
def wsX8_hearReturn : List Cond := .code yX8_hearReturn cX8_hearReturn 2 (some .boolean) :: ((wsX8_hearReturn_r1 ++ (wsX8_hearReturn_r2 ++ wsX8_hearReturn_r3)) ++ wsX60 ++ wsX80 ++ wsX10 ++ wsX50 ++ wsJx4a65c0)
def wsX10_init_r1 : List Cond := [Cond.methodLink RX10 1 objectInit, Cond.instanceMethod objectInit, Cond.code objectInit ⟨#[0xb1]⟩ 1 none, Cond.classLink RX10 7 RX8, Cond.instantiable RX8 6, Cond.initialized RX8, Cond.fieldLink RX10 10 "LeaseGates" "lender" "LLeaseGates$Root;", Cond.classLink RX10 16 RX7, Cond.instantiable RX7 2, Cond.initialized RX7, Cond.fieldLink RX10 19 "LeaseGates" "post" "LLeaseGates$Post;", Cond.classLink RX10 23 RX3, Cond.fieldLink RX10 25 "LeaseGates" "spenders" "[LLeaseGates$Gate;", Cond.instantiable RX3 3, Cond.initialized RX3, Cond.methodLink RX10 9 yX8_init, Cond.instanceMethod yX8_init, Cond.code yX8_init cX8_init 2 none, Cond.methodLink RX8 3 objectInit, Cond.classLink RX8 9 RX9, Cond.instantiable RX9 2, Cond.initialized RX9, Cond.fieldLink RX8 12 "LeaseGates$Root" "ticker" "LLeaseGates$Ticker;", Cond.classLink RX8 18 RX1]
def wsX10_init_r2 : List Cond := [Cond.fieldLink RX8 20 "LeaseGates$Root" "buckets" "[LLeaseGates$Bucket;", Cond.classLink RX8 24 RX0, Cond.fieldLink RX8 26 "LeaseGates$Root" "accounts" "[LLeaseGates$Account;", Cond.arrayClass .int, Cond.fieldLink RX8 30 "LeaseGates$Root" "births" "[I", Cond.fieldLink RX8 34 "LeaseGates$Root" "loanLength" "I", Cond.instantiable RX1 6, Cond.initialized RX1, Cond.instantiable RX0 4, Cond.initialized RX0, Cond.instanceMethod yX9_init, Cond.code yX9_init cX9_init 1 none, Cond.methodLink RX9 1 objectInit, Cond.fieldLink RX9 7 "LeaseGates$Ticker" "pace" "I", Cond.instanceMethod yX1_init, Cond.code yX1_init cX1_init 1 none, Cond.methodLink RX1 3 objectInit, Cond.classLink RX1 9 RJx4a65c, Cond.instantiable RJx4a65c 3, Cond.initialized RJx4a65c, Cond.fieldLink RX1 12 "LeaseGates$Bucket" "loans" "Ljava/util/ArrayList;", Cond.methodLink RX1 11 yJx4a65c_init_da8c8, Cond.instanceMethod yJx4a65c_init_da8c8, Cond.code yJx4a65c_init_da8c8 cJx4a65c_init_da8c8 1 none]
def wsX10_init_r3 : List Cond := [Cond.fieldLink RJx4a65c 39 "java/util/ArrayList" "DEFAULTCAPACITY_EMPTY_ELEMENTDATA" "[Ljava/lang/Object;", Cond.fieldLink RJx4a65c 9 "java/util/ArrayList" "elementData" "[Ljava/lang/Object;", Cond.methodLink RJx4a65c 1 yJxc12de_init_da8c8, Cond.instanceMethod yJxc12de_init_da8c8, Cond.initialized RJxc12de, Cond.code yJxc12de_init_da8c8 cJxc12de_init_da8c8 1 none, Cond.fieldLink RJxc12de 7 "java/util/AbstractList" "modCount" "I", Cond.methodLink RJxc12de 1 yJxa1e45_init_da8c8, Cond.instanceMethod yJxa1e45_init_da8c8, Cond.initialized RJxa1e45, Cond.code yJxa1e45_init_da8c8 cJxa1e45_init_da8c8 1 none, Cond.methodLink RJxa1e45 1 objectInit, Cond.instanceMethod yX0_init, Cond.code yX0_init cX0_init 1 none, Cond.methodLink RX0 1 objectInit, Cond.fieldLink RX0 7 "LeaseGates$Account" "share" "I", Cond.instanceMethod yX7_init, Cond.code yX7_init cX7_init 1 none, Cond.methodLink RX7 3 objectInit, Cond.classLink RX7 9 RX6, Cond.fieldLink RX7 11 "LeaseGates$Post" "slots" "[LLeaseGates$Message;", Cond.methodLink RX10 29 yX3_init, Cond.instanceMethod yX3_init, Cond.code yX3_init cX3_init 3 none]
def wsX10_init_r4 : List Cond := [Cond.methodLink RX3 3 objectInit, Cond.classLink RX3 9 RX9, Cond.fieldLink RX3 12 "LeaseGates$Gate" "ticker" "LLeaseGates$Ticker;", Cond.classLink RX3 18 RX2, Cond.fieldLink RX3 20 "LeaseGates$Gate" "desks" "[LLeaseGates$Desk;", Cond.instantiable RX2 9, Cond.initialized RX2, Cond.methodLink RX3 24 yX2_init, Cond.instanceMethod yX2_init, Cond.code yX2_init cX2_init 3 none, Cond.methodLink RX2 3 objectInit, Cond.classLink RX2 9 RJx4a65c, Cond.fieldLink RX2 12 "LeaseGates$Desk" "holds" "Ljava/util/ArrayList;", Cond.fieldLink RX2 18 "LeaseGates$Desk" "gate" "I", Cond.fieldLink RX2 22 "LeaseGates$Desk" "key" "I", Cond.methodLink RX2 11 yJx4a65c_init_da8c8]
def wsX10_init : List Cond := .code yX10_init cX10_init 2 none :: ((wsX10_init_r1 ++ (wsX10_init_r2 ++ (wsX10_init_r3 ++ wsX10_init_r4))) ++ wsX80 ++ wsX100 ++ wsX70 ++ wsX30 ++ wsX90 ++ wsX10 ++ wsX00 ++ wsJx4a65c0 ++ wsX20)
def wsX10_requireWithin : List Cond := .code yX10_requireWithin cX10_requireWithin 3 none :: ([.classLink RX10 192 "java/lang/IllegalArgumentException", .initialized "java/lang/IllegalArgumentException"] ++ (vx_atS RX10 196 "java/lang/IllegalArgumentException" ["java/lang/RuntimeException", "java/lang/Exception"]).filter goodWord)
def wsX10_requireKey : List Cond := .code yX10_requireKey cX10_requireKey 1 none :: ([.methodLink RX10 36 yX10_requireWithin, .static yX10_requireWithin, .initialized RX10, .code yX10_requireWithin cX10_requireWithin 3 none, .classLink RX10 192 "java/lang/IllegalArgumentException", .initialized "java/lang/IllegalArgumentException"] ++ (vx_atS RX10 196 "java/lang/IllegalArgumentException" ["java/lang/RuntimeException", "java/lang/Exception"]).filter goodWord)
def wsX10_key_r1 : List Cond := [Cond.constant RX10 35 (100000), Cond.constant RX10 40 (1000000), Cond.fieldLink RX10 10 "LeaseGates" "lender" "LLeaseGates$Root;", Cond.fieldLink RX10 41 "LeaseGates$Root" "buckets" "[LLeaseGates$Bucket;", Cond.methodLink RX10 32 yX10_requireKey, Cond.static yX10_requireKey, Cond.initialized RX10, Cond.code yX10_requireKey cX10_requireKey 1 none, Cond.methodLink RX10 36 yX10_requireWithin, Cond.static yX10_requireWithin, Cond.code yX10_requireWithin cX10_requireWithin 3 none, Cond.classLink RX10 192 "java/lang/IllegalArgumentException", Cond.initialized "java/lang/IllegalArgumentException", Cond.methodLink RX10 45 yX1_reshape, Cond.instanceMethod yX1_reshape, Cond.selects RX1 yX1_reshape yX1_reshape, Cond.initialized RX1, Cond.code yX1_reshape cX1_reshape 3 none, Cond.fieldLink RX1 18 "LeaseGates$Bucket" "rate" "I", Cond.fieldLink RX1 22 "LeaseGates$Bucket" "burst" "I", Cond.methodLink RX1 25 yX1_fill, Cond.instanceMethod yX1_fill, Cond.selects RX1 yX1_fill yX1_fill, Cond.code yX1_fill cX1_fill 5 none]
def wsX10_key_r2 : List Cond := [Cond.constantLong RX1 29 (1000), Cond.fieldLink RX1 31 "LeaseGates$Bucket" "lent" "I", Cond.methodLink RX1 34 Lib.MathLoose.max_long.x, Cond.static Lib.MathLoose.max_long.x, Cond.initialized "java/lang/Math", Cond.code Lib.MathLoose.max_long.x Lib.MathLoose.max_long.code 4 (some .long), Cond.fieldLink RX1 40 "LeaseGates$Bucket" "level" "I", Cond.methodLink RX1 43 Lib.MathLoose.min_long.x, Cond.static Lib.MathLoose.min_long.x, Cond.code Lib.MathLoose.min_long.x Lib.MathLoose.min_long.code 4 (some .long)]
def wsX10_key : List Cond := .code yX10_key cX10_key 4 none :: ((wsX10_key_r1 ++ wsX10_key_r2) ++ wsX100 ++ wsX80 ++ wsX10 ++ (vx_atS RX10 196 "java/lang/IllegalArgumentException" ["java/lang/RuntimeException", "java/lang/Exception"]).filter goodWord)
def wsX10_length : List Cond := .code yX10_length cX10_length 2 none :: ([.fieldLink RX10 10 "LeaseGates" "lender" "LLeaseGates$Root;", .fieldLink RX10 51 "LeaseGates$Root" "loanLength" "I", .methodLink RX10 36 yX10_requireWithin, .static yX10_requireWithin, .initialized RX10, .code yX10_requireWithin cX10_requireWithin 3 none, .classLink RX10 192 "java/lang/IllegalArgumentException", .initialized "java/lang/IllegalArgumentException"] ++ wsX100 ++ wsX80 ++ (vx_atS RX10 196 "java/lang/IllegalArgumentException" ["java/lang/RuntimeException", "java/lang/Exception"]).filter goodWord)
def wsX10_requireGate : List Cond := .code yX10_requireGate cX10_requireGate 1 none :: ([.methodLink RX10 36 yX10_requireWithin, .static yX10_requireWithin, .initialized RX10, .code yX10_requireWithin cX10_requireWithin 3 none, .classLink RX10 192 "java/lang/IllegalArgumentException", .initialized "java/lang/IllegalArgumentException"] ++ (vx_atS RX10 196 "java/lang/IllegalArgumentException" ["java/lang/RuntimeException", "java/lang/Exception"]).filter goodWord)
def wsX10_weight : List Cond := .code yX10_weight cX10_weight 4 none :: ([.fieldLink RX10 10 "LeaseGates" "lender" "LLeaseGates$Root;", .fieldLink RX10 62 "LeaseGates$Account" "share" "I", .methodLink RX10 55 yX10_requireGate, .static yX10_requireGate, .initialized RX10, .code yX10_requireGate cX10_requireGate 1 none, .methodLink RX10 36 yX10_requireWithin, .static yX10_requireWithin, .code yX10_requireWithin cX10_requireWithin 3 none, .classLink RX10 192 "java/lang/IllegalArgumentException", .initialized "java/lang/IllegalArgumentException", .methodLink RX10 32 yX10_requireKey, .static yX10_requireKey, .code yX10_requireKey cX10_requireKey 1 none, .methodLink RX10 58 yX8_accountOf, .instanceMethod yX8_accountOf, .selects RX8 yX8_accountOf yX8_accountOf, .initialized RX8, .code yX8_accountOf cX8_accountOf 3 (some (.object "LeaseGates$Account")), .fieldLink RX8 26 "LeaseGates$Root" "accounts" "[LLeaseGates$Account;"] ++ wsX100 ++ wsX00 ++ wsX80 ++ (vx_atS RX10 196 "java/lang/IllegalArgumentException" ["java/lang/RuntimeException", "java/lang/Exception"]).filter goodWord)
def wsX10_tickerOf : List Cond := .code yX10_tickerOf cX10_tickerOf 2 (some (.object "LeaseGates$Ticker")) :: ([.fieldLink RX10 10 "LeaseGates" "lender" "LLeaseGates$Root;", .fieldLink RX10 188 "LeaseGates$Root" "ticker" "LLeaseGates$Ticker;", .fieldLink RX10 25 "LeaseGates" "spenders" "[LLeaseGates$Gate;", .fieldLink RX10 119 "LeaseGates$Gate" "ticker" "LLeaseGates$Ticker;"] ++ wsX100 ++ wsX80 ++ wsX30)
def wsX10_speed : List Cond := .code yX10_speed cX10_speed 3 none :: ([.fieldLink RX10 71 "LeaseGates$Ticker" "pace" "I", .methodLink RX10 36 yX10_requireWithin, .static yX10_requireWithin, .initialized RX10, .code yX10_requireWithin cX10_requireWithin 3 none, .classLink RX10 192 "java/lang/IllegalArgumentException", .initialized "java/lang/IllegalArgumentException", .methodLink RX10 67 yX10_tickerOf, .instanceMethod yX10_tickerOf, .selects RX10 yX10_tickerOf yX10_tickerOf, .code yX10_tickerOf cX10_tickerOf 2 (some (.object "LeaseGates$Ticker")), .fieldLink RX10 10 "LeaseGates" "lender" "LLeaseGates$Root;", .fieldLink RX10 188 "LeaseGates$Root" "ticker" "LLeaseGates$Ticker;", .fieldLink RX10 25 "LeaseGates" "spenders" "[LLeaseGates$Gate;", .fieldLink RX10 119 "LeaseGates$Gate" "ticker" "LLeaseGates$Ticker;"] ++ wsX90 ++ wsX100 ++ wsX80 ++ wsX30 ++ (vx_atS RX10 196 "java/lang/IllegalArgumentException" ["java/lang/RuntimeException", "java/lang/Exception"]).filter goodWord)
def wsX10_take_r1 : List Cond := [Cond.fieldLink RX10 25 "LeaseGates" "spenders" "[LLeaseGates$Gate;", Cond.fieldLink RX10 10 "LeaseGates" "lender" "LLeaseGates$Root;", Cond.fieldLink RX10 41 "LeaseGates$Root" "buckets" "[LLeaseGates$Bucket;", Cond.fieldLink RX10 80 "LeaseGates$Bucket" "spentAtGates" "I", Cond.methodLink RX10 55 yX10_requireGate, Cond.static yX10_requireGate, Cond.initialized RX10, Cond.code yX10_requireGate cX10_requireGate 1 none, Cond.methodLink RX10 36 yX10_requireWithin, Cond.static yX10_requireWithin, Cond.code yX10_requireWithin cX10_requireWithin 3 none, Cond.classLink RX10 192 "java/lang/IllegalArgumentException", Cond.initialized "java/lang/IllegalArgumentException", Cond.methodLink RX10 32 yX10_requireKey, Cond.static yX10_requireKey, Cond.code yX10_requireKey cX10_requireKey 1 none, Cond.methodLink RX10 76 yX3_spend, Cond.instanceMethod yX3_spend, Cond.selects RX3 yX3_spend yX3_spend, Cond.initialized RX3, Cond.code yX3_spend cX3_spend 3 (some .boolean), Cond.fieldLink RX3 20 "LeaseGates$Gate" "desks" "[LLeaseGates$Desk;", Cond.fieldLink RX3 12 "LeaseGates$Gate" "ticker" "LLeaseGates$Ticker;", Cond.methodLink RX3 27 yX9_now]
def wsX10_take_r2 : List Cond := [Cond.instanceMethod yX9_now, Cond.selects RX9 yX9_now yX9_now, Cond.initialized RX9, Cond.code yX9_now cX9_now 1 (some .int), Cond.fieldLink RX9 13 "LeaseGates$Ticker" "thousandths" "J", Cond.constantLong RX9 17 (1000), Cond.methodLink RX3 31 yX2_spend, Cond.instanceMethod yX2_spend, Cond.selects RX2 yX2_spend yX2_spend, Cond.initialized RX2, Cond.code yX2_spend cX2_spend 3 (some .boolean), Cond.fieldLink RX2 31 "LeaseGates$Desk" "use" "I", Cond.fieldLink RX2 44 "LeaseGates$Desk" "refusals" "I", Cond.methodLink RX2 64 yX2_liveTokens, Cond.instanceMethod yX2_liveTokens, Cond.selects RX2 yX2_liveTokens yX2_liveTokens, Cond.code yX2_liveTokens cX2_liveTokens 5 (some .int), Cond.fieldLink RX2 12 "LeaseGates$Desk" "holds" "Ljava/util/ArrayList;", Cond.classLink RX2 55 "LeaseGates$Hold", Cond.fieldLink RX2 61 "LeaseGates$Hold" "tokens" "I", Cond.methodLink RX2 47 yJx4a65c_size_8abf5, Cond.instanceMethod yJx4a65c_size_8abf5, Cond.selects RJx4a65c yJx4a65c_size_8abf5 yJx4a65c_size_8abf5, Cond.initialized RJx4a65c]
def wsX10_take_r3 : List Cond := [Cond.code yJx4a65c_size_8abf5 cJx4a65c_size_8abf5 1 (some .int), Cond.fieldLink RJx4a65c 48 "java/util/ArrayList" "size" "I", Cond.methodLink RX2 51 yJx4a65c_get_915e3, Cond.instanceMethod yJx4a65c_get_915e3, Cond.selects RJx4a65c yJx4a65c_get_915e3 yJx4a65c_get_915e3, Cond.code yJx4a65c_get_915e3 cJx4a65c_get_915e3 2 (some (.object "java/lang/Object")), Cond.methodLink RJx4a65c 118 yJ15_checkIndex_7cf53, Cond.static yJ15_checkIndex_7cf53, Cond.initialized RJ15, Cond.code yJ15_checkIndex_7cf53 cJ15_checkIndex_7cf53 2 (some .int), Cond.methodLink RJ15 105 yJ3_checkIndex_8e157, Cond.static yJ3_checkIndex_8e157, Cond.initialized RJ3, Cond.code yJ3_checkIndex_8e157 cJ3_checkIndex_8e157 3 (some .int), Cond.methodLink RJx4a65c 123 yJx4a65c_elementData_915e3, Cond.instanceMethod yJx4a65c_elementData_915e3, Cond.selects RJx4a65c yJx4a65c_elementData_915e3 yJx4a65c_elementData_915e3, Cond.code yJx4a65c_elementData_915e3 cJx4a65c_elementData_915e3 2 (some (.object "java/lang/Object")), Cond.fieldLink RJx4a65c 9 "java/util/ArrayList" "elementData" "[Ljava/lang/Object;", Cond.methodLink RX2 57 yX4_isLive, Cond.instanceMethod yX4_isLive, Cond.selects RX4 yX4_isLive yX4_isLive, Cond.initialized RX4, Cond.code yX4_isLive cX4_isLive 2 (some .boolean)]
def wsX10_take_r4 : List Cond := [Cond.fieldLink RX4 16 "LeaseGates$Hold" "asked" "I", Cond.fieldLink RX4 22 "LeaseGates$Hold" "span" "I", Cond.methodLink RX2 68 yX2_takeOut, Cond.instanceMethod yX2_takeOut, Cond.selects RX2 yX2_takeOut yX2_takeOut, Cond.code yX2_takeOut cX2_takeOut 8 none, Cond.methodLink RX2 75 Lib.Math.min.name, Cond.static Lib.Math.min.name, Cond.initialized "java/lang/Math", Cond.code Lib.Math.min.name Lib.Math.min.code 2 (some .int), Cond.methodLink RX2 72 yX2_liveHoldThatEndsFirst, Cond.instanceMethod yX2_liveHoldThatEndsFirst, Cond.selects RX2 yX2_liveHoldThatEndsFirst yX2_liveHoldThatEndsFirst, Cond.code yX2_liveHoldThatEndsFirst cX2_liveHoldThatEndsFirst 5 (some .int), Cond.methodLink RX2 84 yX4_end, Cond.instanceMethod yX4_end, Cond.selects RX4 yX4_end yX4_end, Cond.code yX4_end cX4_end 1 (some .int), Cond.methodLink RX2 81 yJx4a65c_remove_915e3, Cond.instanceMethod yJx4a65c_remove_915e3, Cond.selects RJx4a65c yJx4a65c_remove_915e3 yJx4a65c_remove_915e3, Cond.code yJx4a65c_remove_915e3 cJx4a65c_remove_915e3 4 (some (.object "java/lang/Object")), Cond.methodLink RJx4a65c 144 yJx4a65c_fastRemove_b59b0, Cond.instanceMethod yJx4a65c_fastRemove_b59b0]
def wsX10_take_r5 : List Cond := [Cond.selects RJx4a65c yJx4a65c_fastRemove_b59b0 yJx4a65c_fastRemove_b59b0, Cond.code yJx4a65c_fastRemove_b59b0 cJx4a65c_fastRemove_b59b0 4 none, Cond.fieldLink RJx4a65c 63 "java/util/ArrayList" "modCount" "I", Cond.sameField "java/util/ArrayList" "java/util/AbstractList" "modCount" "I", Cond.methodLink RJx4a65c 112 arraycopyName, Cond.native arraycopyName, Cond.static arraycopyName, Cond.initialized "java/lang/System"]
def wsX10_take : List Cond := .code yX10_take cX10_take 5 (some .boolean) :: ((wsX10_take_r1 ++ (wsX10_take_r2 ++ (wsX10_take_r3 ++ (wsX10_take_r4 ++ wsX10_take_r5)))) ++ wsX100 ++ wsX80 ++ wsX10 ++ wsX30 ++ wsX90 ++ wsX20 ++ wsX40 ++ wsJx4a65c0 ++ (vx_atS RX10 196 "java/lang/IllegalArgumentException" ["java/lang/RuntimeException", "java/lang/Exception"]).filter goodWord)
def wsX10_work_r1 : List Cond := [Cond.fieldLink RX10 19 "LeaseGates" "post" "LLeaseGates$Post;", Cond.fieldLink RX10 83 "LeaseGates$Post" "count" "I", Cond.fieldLink RX10 25 "LeaseGates" "spenders" "[LLeaseGates$Gate;", Cond.methodLink RX10 55 yX10_requireGate, Cond.static yX10_requireGate, Cond.initialized RX10, Cond.code yX10_requireGate cX10_requireGate 1 none, Cond.methodLink RX10 36 yX10_requireWithin, Cond.static yX10_requireWithin, Cond.code yX10_requireWithin cX10_requireWithin 3 none, Cond.classLink RX10 192 "java/lang/IllegalArgumentException", Cond.initialized "java/lang/IllegalArgumentException", Cond.methodLink RX10 86 yX3_settle, Cond.instanceMethod yX3_settle, Cond.selects RX3 yX3_settle yX3_settle, Cond.initialized RX3, Cond.code yX3_settle cX3_settle 3 none, Cond.fieldLink RX3 20 "LeaseGates$Gate" "desks" "[LLeaseGates$Desk;", Cond.fieldLink RX3 35 "LeaseGates$Gate" "birth" "I", Cond.fieldLink RX3 12 "LeaseGates$Gate" "ticker" "LLeaseGates$Ticker;", Cond.methodLink RX3 27 yX9_now, Cond.instanceMethod yX9_now, Cond.selects RX9 yX9_now yX9_now, Cond.initialized RX9]
def wsX10_work_r2 : List Cond := [Cond.code yX9_now cX9_now 1 (some .int), Cond.fieldLink RX9 13 "LeaseGates$Ticker" "thousandths" "J", Cond.constantLong RX9 17 (1000), Cond.methodLink RX3 39 yX2_settle, Cond.instanceMethod yX2_settle, Cond.selects RX2 yX2_settle yX2_settle, Cond.initialized RX2, Cond.code yX2_settle cX2_settle 5 none, Cond.fieldLink RX2 31 "LeaseGates$Desk" "use" "I", Cond.fieldLink RX2 28 "LeaseGates$Desk" "demand" "I", Cond.fieldLink RX2 34 "LeaseGates$Desk" "asks" "I", Cond.fieldLink RX2 37 "LeaseGates$Desk" "open" "Z", Cond.fieldLink RX2 41 "LeaseGates$Desk" "openSince" "I", Cond.classLink RX2 94 RX6, Cond.instantiable RX6 8, Cond.initialized RX6, Cond.fieldLink RX2 18 "LeaseGates$Desk" "gate" "I", Cond.fieldLink RX2 22 "LeaseGates$Desk" "key" "I", Cond.methodLink RX2 87 yX2_giveBack, Cond.instanceMethod yX2_giveBack, Cond.selects RX2 yX2_giveBack yX2_giveBack, Cond.code yX2_giveBack cX2_giveBack 8 none, Cond.fieldLink RX2 12 "LeaseGates$Desk" "holds" "Ljava/util/ArrayList;", Cond.classLink RX2 55 "LeaseGates$Hold"]
def wsX10_work_r3 : List Cond := [Cond.methodLink RX2 47 yJx4a65c_size_8abf5, Cond.instanceMethod yJx4a65c_size_8abf5, Cond.selects RJx4a65c yJx4a65c_size_8abf5 yJx4a65c_size_8abf5, Cond.initialized RJx4a65c, Cond.code yJx4a65c_size_8abf5 cJx4a65c_size_8abf5 1 (some .int), Cond.fieldLink RJx4a65c 48 "java/util/ArrayList" "size" "I", Cond.methodLink RX2 51 yJx4a65c_get_915e3, Cond.instanceMethod yJx4a65c_get_915e3, Cond.selects RJx4a65c yJx4a65c_get_915e3 yJx4a65c_get_915e3, Cond.code yJx4a65c_get_915e3 cJx4a65c_get_915e3 2 (some (.object "java/lang/Object")), Cond.methodLink RJx4a65c 118 yJ15_checkIndex_7cf53, Cond.static yJ15_checkIndex_7cf53, Cond.initialized RJ15, Cond.code yJ15_checkIndex_7cf53 cJ15_checkIndex_7cf53 2 (some .int), Cond.methodLink RJ15 105 yJ3_checkIndex_8e157, Cond.static yJ3_checkIndex_8e157, Cond.initialized RJ3, Cond.code yJ3_checkIndex_8e157 cJ3_checkIndex_8e157 3 (some .int), Cond.methodLink RJx4a65c 123 yJx4a65c_elementData_915e3, Cond.instanceMethod yJx4a65c_elementData_915e3, Cond.selects RJx4a65c yJx4a65c_elementData_915e3 yJx4a65c_elementData_915e3, Cond.code yJx4a65c_elementData_915e3 cJx4a65c_elementData_915e3 2 (some (.object "java/lang/Object")), Cond.fieldLink RJx4a65c 9 "java/util/ArrayList" "elementData" "[Ljava/lang/Object;", Cond.methodLink RX2 57 yX4_isLive]
def wsX10_work_r4 : List Cond := [Cond.instanceMethod yX4_isLive, Cond.selects RX4 yX4_isLive yX4_isLive, Cond.initialized RX4, Cond.code yX4_isLive cX4_isLive 2 (some .boolean), Cond.fieldLink RX4 16 "LeaseGates$Hold" "asked" "I", Cond.fieldLink RX4 22 "LeaseGates$Hold" "span" "I", Cond.methodLink RX2 105 yX4_isHalfOver, Cond.instanceMethod yX4_isHalfOver, Cond.selects RX4 yX4_isHalfOver yX4_isHalfOver, Cond.code yX4_isHalfOver cX4_isHalfOver 2 (some .boolean), Cond.methodLink RX2 108 yJx4a65c_set_bcc79, Cond.instanceMethod yJx4a65c_set_bcc79, Cond.selects RJx4a65c yJx4a65c_set_bcc79 yJx4a65c_set_bcc79, Cond.code yJx4a65c_set_bcc79 cJx4a65c_set_bcc79 4 (some (.object "java/lang/Object")), Cond.methodLink RX2 112 yX6_init__, Cond.instanceMethod yX6_init__, Cond.code yX6_init__ cX6_init__ 5 none, Cond.methodLink RX6 3 objectInit, Cond.instanceMethod objectInit, Cond.code objectInit ⟨#[0xb1]⟩ 1 none, Cond.fieldLink RX6 9 "LeaseGates$Message" "kind" "I", Cond.fieldLink RX6 15 "LeaseGates$Message" "gate" "I", Cond.fieldLink RX6 18 "LeaseGates$Message" "key" "I", Cond.fieldLink RX6 21 "LeaseGates$Message" "birth" "I"]
def wsX10_work_r5 : List Cond := [Cond.fieldLink RX6 36 "LeaseGates$Hold" "tokens" "I", Cond.fieldLink RX6 24 "LeaseGates$Message" "tokens" "I", Cond.fieldLink RX6 27 "LeaseGates$Message" "count" "I", Cond.fieldLink RX6 39 "LeaseGates$Hold" "loan" "I", Cond.fieldLink RX6 30 "LeaseGates$Message" "loan" "I", Cond.fieldLink RX6 33 "LeaseGates$Message" "loanLength" "I", Cond.methodLink RX2 99 yX7_send, Cond.instanceMethod yX7_send, Cond.selects RX7 yX7_send yX7_send, Cond.initialized RX7, Cond.code yX7_send cX7_send 2 none, Cond.fieldLink RX7 17 "LeaseGates$Post" "count" "I", Cond.fieldLink RX7 11 "LeaseGates$Post" "slots" "[LLeaseGates$Message;", Cond.methodLink RX2 81 yJx4a65c_remove_915e3, Cond.instanceMethod yJx4a65c_remove_915e3, Cond.selects RJx4a65c yJx4a65c_remove_915e3 yJx4a65c_remove_915e3, Cond.code yJx4a65c_remove_915e3 cJx4a65c_remove_915e3 4 (some (.object "java/lang/Object")), Cond.methodLink RJx4a65c 144 yJx4a65c_fastRemove_b59b0, Cond.instanceMethod yJx4a65c_fastRemove_b59b0, Cond.selects RJx4a65c yJx4a65c_fastRemove_b59b0 yJx4a65c_fastRemove_b59b0, Cond.code yJx4a65c_fastRemove_b59b0 cJx4a65c_fastRemove_b59b0 4 none, Cond.fieldLink RJx4a65c 63 "java/util/ArrayList" "modCount" "I", Cond.sameField "java/util/ArrayList" "java/util/AbstractList" "modCount" "I", Cond.methodLink RJx4a65c 112 arraycopyName]
def wsX10_work_r6 : List Cond := [Cond.native arraycopyName, Cond.static arraycopyName, Cond.initialized "java/lang/System", Cond.methodLink RX2 64 yX2_liveTokens, Cond.instanceMethod yX2_liveTokens, Cond.selects RX2 yX2_liveTokens yX2_liveTokens, Cond.code yX2_liveTokens cX2_liveTokens 5 (some .int), Cond.fieldLink RX2 61 "LeaseGates$Hold" "tokens" "I", Cond.methodLink RX2 91 yX2_mayAsk, Cond.instanceMethod yX2_mayAsk, Cond.selects RX2 yX2_mayAsk yX2_mayAsk, Cond.code yX2_mayAsk cX2_mayAsk 2 (some .boolean), Cond.methodLink RX2 96 yX6_init, Cond.instanceMethod yX6_init, Cond.code yX6_init cX6_init 6 none]
def wsX10_work : List Cond := .code yX10_work cX10_work 3 (some .int) :: ((wsX10_work_r1 ++ (wsX10_work_r2 ++ (wsX10_work_r3 ++ (wsX10_work_r4 ++ (wsX10_work_r5 ++ wsX10_work_r6))))) ++ wsX100 ++ wsX70 ++ wsX30 ++ wsX90 ++ wsX20 ++ wsX60 ++ wsJx4a65c0 ++ wsX40 ++ (vx_atS RX10 196 "java/lang/IllegalArgumentException" ["java/lang/RuntimeException", "java/lang/Exception"]).filter goodWord)
def wsX10_requireMessage : List Cond := .code yX10_requireMessage cX10_requireMessage 3 (some (.object "LeaseGates$Message")) :: ([.classLink RX10 192 "java/lang/IllegalArgumentException", .initialized "java/lang/IllegalArgumentException", .fieldLink RX10 19 "LeaseGates" "post" "LLeaseGates$Post;", .methodLink RX10 189 yX7_find, .instanceMethod yX7_find, .selects RX7 yX7_find yX7_find, .initialized RX7, .code yX7_find cX7_find 2 (some (.object "LeaseGates$Message")), .fieldLink RX7 17 "LeaseGates$Post" "count" "I", .fieldLink RX7 11 "LeaseGates$Post" "slots" "[LLeaseGates$Message;"] ++ wsX100 ++ wsX70 ++ (vx_atS RX10 196 "java/lang/IllegalArgumentException" ["java/lang/RuntimeException", "java/lang/Exception"]).filter goodWord)
def wsX10_carry_r1 : List Cond := [Cond.fieldLink RX10 94 "LeaseGates$Message" "kind" "I", Cond.fieldLink RX10 10 "LeaseGates" "lender" "LLeaseGates$Root;", Cond.fieldLink RX10 19 "LeaseGates" "post" "LLeaseGates$Post;", Cond.fieldLink RX10 25 "LeaseGates" "spenders" "[LLeaseGates$Gate;", Cond.fieldLink RX10 107 "LeaseGates$Message" "gate" "I", Cond.methodLink RX10 90 yX10_requireMessage, Cond.instanceMethod yX10_requireMessage, Cond.selects RX10 yX10_requireMessage yX10_requireMessage, Cond.initialized RX10, Cond.code yX10_requireMessage cX10_requireMessage 3 (some (.object "LeaseGates$Message")), Cond.classLink RX10 192 "java/lang/IllegalArgumentException", Cond.initialized "java/lang/IllegalArgumentException", Cond.methodLink RX10 189 yX7_find, Cond.instanceMethod yX7_find, Cond.selects RX7 yX7_find yX7_find, Cond.initialized RX7, Cond.code yX7_find cX7_find 2 (some (.object "LeaseGates$Message")), Cond.fieldLink RX7 17 "LeaseGates$Post" "count" "I", Cond.fieldLink RX7 11 "LeaseGates$Post" "slots" "[LLeaseGates$Message;", Cond.methodLink RX10 99 yX8_hearAsk, Cond.instanceMethod yX8_hearAsk, Cond.selects RX8 yX8_hearAsk yX8_hearAsk, Cond.initialized RX8, Cond.code yX8_hearAsk cX8_hearAsk 4 (some .boolean)]
def wsX10_carry_r2 : List Cond := [Cond.fieldLink RX8 52 "LeaseGates$Message" "birth" "I", Cond.fieldLink RX8 30 "LeaseGates$Root" "births" "[I", Cond.fieldLink RX8 57 "LeaseGates$Message" "gate" "I", Cond.fieldLink RX8 63 "LeaseGates$Message" "key" "I", Cond.fieldLink RX8 70 "LeaseGates$Account" "answer" "LLeaseGates$Message;", Cond.fieldLink RX8 74 "LeaseGates$Message" "count" "I", Cond.methodLink RX8 60 yX8_forgetAnswers, Cond.instanceMethod yX8_forgetAnswers, Cond.selects RX8 yX8_forgetAnswers yX8_forgetAnswers, Cond.code yX8_forgetAnswers cX8_forgetAnswers 3 none, Cond.methodLink RX8 66 yX8_accountOf, Cond.instanceMethod yX8_accountOf, Cond.selects RX8 yX8_accountOf yX8_accountOf, Cond.code yX8_accountOf cX8_accountOf 3 (some (.object "LeaseGates$Account")), Cond.fieldLink RX8 26 "LeaseGates$Root" "accounts" "[LLeaseGates$Account;", Cond.methodLink RX8 77 yX8_answerTo, Cond.instanceMethod yX8_answerTo, Cond.selects RX8 yX8_answerTo yX8_answerTo, Cond.code yX8_answerTo cX8_answerTo 7 (some (.object "LeaseGates$Message")), Cond.fieldLink RX8 87 "LeaseGates$Account" "asked" "Z", Cond.fieldLink RX8 12 "LeaseGates$Root" "ticker" "LLeaseGates$Ticker;", Cond.fieldLink RX8 91 "LeaseGates$Account" "askedAt" "I", Cond.fieldLink RX8 20 "LeaseGates$Root" "buckets" "[LLeaseGates$Bucket;", Cond.fieldLink RX8 97 "LeaseGates$Message" "tokens" "I"]
def wsX10_carry_r3 : List Cond := [Cond.fieldLink RX8 100 "LeaseGates$Account" "share" "I", Cond.classLink RX8 53 RX6, Cond.instantiable RX6 8, Cond.initialized RX6, Cond.fieldLink RX8 34 "LeaseGates$Root" "loanLength" "I", Cond.fieldLink RX8 110 "LeaseGates$Root" "loansSoFar" "I", Cond.methodLink RX8 40 yX9_now, Cond.instanceMethod yX9_now, Cond.selects RX9 yX9_now yX9_now, Cond.initialized RX9, Cond.code yX9_now cX9_now 1 (some .int), Cond.fieldLink RX9 13 "LeaseGates$Ticker" "thousandths" "J", Cond.constantLong RX9 17 (1000), Cond.methodLink RX8 94 yX1_free, Cond.instanceMethod yX1_free, Cond.selects RX1 yX1_free yX1_free, Cond.initialized RX1, Cond.code yX1_free cX1_free 1 (some .int), Cond.fieldLink RX1 40 "LeaseGates$Bucket" "level" "I", Cond.methodLink RX8 103 yX8_shareOf, Cond.instanceMethod yX8_shareOf, Cond.selects RX8 yX8_shareOf yX8_shareOf, Cond.code yX8_shareOf cX8_shareOf 7 (some .int), Cond.methodLink RX8 117 yX0_askedOfLate]
def wsX10_carry_r4 : List Cond := [Cond.instanceMethod yX0_askedOfLate, Cond.selects RX0 yX0_askedOfLate yX0_askedOfLate, Cond.initialized RX0, Cond.code yX0_askedOfLate cX0_askedOfLate 2 (some .boolean), Cond.fieldLink RX0 13 "LeaseGates$Account" "asked" "Z", Cond.fieldLink RX0 17 "LeaseGates$Account" "askedAt" "I", Cond.methodLink RX8 107 yX6_init_, Cond.instanceMethod yX6_init_, Cond.code yX6_init_ cX6_init_ 5 none, Cond.methodLink RX6 3 objectInit, Cond.instanceMethod objectInit, Cond.code objectInit ⟨#[0xb1]⟩ 1 none, Cond.fieldLink RX6 9 "LeaseGates$Message" "kind" "I", Cond.fieldLink RX6 15 "LeaseGates$Message" "gate" "I", Cond.fieldLink RX6 18 "LeaseGates$Message" "key" "I", Cond.fieldLink RX6 21 "LeaseGates$Message" "birth" "I", Cond.fieldLink RX6 24 "LeaseGates$Message" "tokens" "I", Cond.fieldLink RX6 27 "LeaseGates$Message" "count" "I", Cond.fieldLink RX6 30 "LeaseGates$Message" "loan" "I", Cond.fieldLink RX6 33 "LeaseGates$Message" "loanLength" "I", Cond.methodLink RX8 113 yX1_lend, Cond.instanceMethod yX1_lend, Cond.selects RX1 yX1_lend yX1_lend, Cond.code yX1_lend cX1_lend 4 none]
def wsX10_carry_r5 : List Cond := [Cond.fieldLink RX1 31 "LeaseGates$Bucket" "lent" "I", Cond.fieldLink RX1 12 "LeaseGates$Bucket" "loans" "Ljava/util/ArrayList;", Cond.classLink RX1 57 RX5, Cond.instantiable RX5 3, Cond.initialized RX5, Cond.methodLink RX1 72 yX5_init, Cond.instanceMethod yX5_init, Cond.code yX5_init cX5_init 4 none, Cond.methodLink RX5 1 objectInit, Cond.fieldLink RX5 7 "LeaseGates$Loan" "number" "I", Cond.fieldLink RX5 13 "LeaseGates$Loan" "tokens" "I", Cond.fieldLink RX5 16 "LeaseGates$Loan" "end" "I", Cond.methodLink RX1 75 yJx4a65c_add_9ea2d, Cond.instanceMethod yJx4a65c_add_9ea2d, Cond.selects RJx4a65c yJx4a65c_add_9ea2d yJx4a65c_add_9ea2d, Cond.initialized RJx4a65c, Cond.code yJx4a65c_add_9ea2d cJx4a65c_add_9ea2d 2 (some .boolean), Cond.fieldLink RJx4a65c 63 "java/util/ArrayList" "modCount" "I", Cond.sameField "java/util/ArrayList" "java/util/AbstractList" "modCount" "I", Cond.fieldLink RJx4a65c 9 "java/util/ArrayList" "elementData" "[Ljava/lang/Object;", Cond.fieldLink RJx4a65c 48 "java/util/ArrayList" "size" "I", Cond.methodLink RJx4a65c 131 yJx4a65c_add_72be8, Cond.instanceMethod yJx4a65c_add_72be8, Cond.selects RJx4a65c yJx4a65c_add_72be8 yJx4a65c_add_72be8]
def wsX10_carry_r6 : List Cond := [Cond.code yJx4a65c_add_72be8 cJx4a65c_add_72be8 4 none, Cond.methodLink RJx4a65c 129 yJx4a65c_grow_d5877, Cond.instanceMethod yJx4a65c_grow_d5877, Cond.selects RJx4a65c yJx4a65c_grow_d5877 yJx4a65c_grow_d5877, Cond.code yJx4a65c_grow_d5877 cJx4a65c_grow_d5877 1 (some (.array (.object "java/lang/Object"))), Cond.methodLink RJx4a65c 69 yJx4a65c_grow_92f84, Cond.instanceMethod yJx4a65c_grow_92f84, Cond.selects RJx4a65c yJx4a65c_grow_92f84 yJx4a65c_grow_92f84, Cond.code yJx4a65c_grow_92f84 cJx4a65c_grow_92f84 4 (some (.array (.object "java/lang/Object"))), Cond.fieldLink RJx4a65c 39 "java/util/ArrayList" "DEFAULTCAPACITY_EMPTY_ELEMENTDATA" "[Ljava/lang/Object;", Cond.methodLink RJx4a65c 79 Lib.Math.max.name, Cond.static Lib.Math.max.name, Cond.initialized "java/lang/Math", Cond.code Lib.Math.max.name Lib.Math.max.code 2 (some .int), Cond.classLink RJx4a65c 7 "java/lang/Object", Cond.methodLink RJx4a65c 73 yJ8_newLength_cabcc, Cond.static yJ8_newLength_cabcc, Cond.initialized RJ8, Cond.code yJ8_newLength_cabcc cJ8_newLength_cabcc 4 (some .int), Cond.methodLink RJ8 194 Lib.Math.max.name, Cond.constant RJ8 200 (2147483639), Cond.methodLink RJ8 201 yJ8_hugeLength_7cf53, Cond.static yJ8_hugeLength_7cf53, Cond.code yJ8_hugeLength_7cf53 cJ8_hugeLength_7cf53 3 (some .int)]
def wsX10_carry_r7 : List Cond := [Cond.methodLink RJx4a65c 66 yJ7_copyOf_1904c, Cond.static yJ7_copyOf_1904c, Cond.initialized RJ7, Cond.code yJ7_copyOf_1904c cJ7_copyOf_1904c 2 (some (.array (.object "java/lang/Object"))), Cond.methodLink RJ7 86 ⟨"java/lang/Object", "getClass", "()Ljava/lang/Class;"⟩, Cond.selects "[Ljava/lang/Object;" ⟨"java/lang/Object", "getClass", "()Ljava/lang/Class;"⟩ ⟨"java/lang/Object", "getClass", "()Ljava/lang/Class;"⟩, Cond.instanceMethod ⟨"java/lang/Object", "getClass", "()Ljava/lang/Class;"⟩, Cond.native ⟨"java/lang/Object", "getClass", "()Ljava/lang/Class;"⟩, Cond.methodLink RJ7 300 yJ7_copyOf_6403c, Cond.static yJ7_copyOf_6403c, Cond.code yJ7_copyOf_6403c cJ7_copyOf_6403c 4 (some (.array (.object "java/lang/Object"))), Cond.classLink RJ7 110 "[Ljava/lang/Object;", Cond.classLink RJ7 2 "java/lang/Object", Cond.methodLink RJ7 304 Lib.Math.min.name, Cond.static Lib.Math.min.name, Cond.code Lib.Math.min.name Lib.Math.min.code 2 (some .int), Cond.methodLink RJ7 150 arraycopyName, Cond.native arraycopyName, Cond.static arraycopyName, Cond.initialized "java/lang/System", Cond.methodLink RX8 81 yX7_send, Cond.instanceMethod yX7_send, Cond.selects RX7 yX7_send yX7_send, Cond.code yX7_send cX7_send 2 none]
def wsX10_carry_r8 : List Cond := [Cond.methodLink RX10 103 yX8_hearReturn, Cond.instanceMethod yX8_hearReturn, Cond.selects RX8 yX8_hearReturn yX8_hearReturn, Cond.code yX8_hearReturn cX8_hearReturn 2 (some .boolean), Cond.fieldLink RX8 121 "LeaseGates$Message" "loan" "I", Cond.methodLink RX8 124 yX1_bringBack, Cond.instanceMethod yX1_bringBack, Cond.selects RX1 yX1_bringBack yX1_bringBack, Cond.code yX1_bringBack cX1_bringBack 4 (some .boolean), Cond.classLink RX1 57 "LeaseGates$Loan", Cond.fieldLink RX1 79 "LeaseGates$Loan" "number" "I", Cond.constantLong RX1 29 (1000), Cond.methodLink RX1 46 yJx4a65c_size_8abf5, Cond.instanceMethod yJx4a65c_size_8abf5, Cond.selects RJx4a65c yJx4a65c_size_8abf5 yJx4a65c_size_8abf5, Cond.code yJx4a65c_size_8abf5 cJx4a65c_size_8abf5 1 (some .int), Cond.methodLink RX1 53 yJx4a65c_get_915e3, Cond.instanceMethod yJx4a65c_get_915e3, Cond.selects RJx4a65c yJx4a65c_get_915e3 yJx4a65c_get_915e3, Cond.code yJx4a65c_get_915e3 cJx4a65c_get_915e3 2 (some (.object "java/lang/Object")), Cond.methodLink RJx4a65c 118 yJ15_checkIndex_7cf53, Cond.static yJ15_checkIndex_7cf53, Cond.initialized RJ15, Cond.code yJ15_checkIndex_7cf53 cJ15_checkIndex_7cf53 2 (some .int)]
def wsX10_carry_r9 : List Cond := [Cond.methodLink RJ15 105 yJ3_checkIndex_8e157, Cond.static yJ3_checkIndex_8e157, Cond.initialized RJ3, Cond.code yJ3_checkIndex_8e157 cJ3_checkIndex_8e157 3 (some .int), Cond.methodLink RJx4a65c 123 yJx4a65c_elementData_915e3, Cond.instanceMethod yJx4a65c_elementData_915e3, Cond.selects RJx4a65c yJx4a65c_elementData_915e3 yJx4a65c_elementData_915e3, Cond.code yJx4a65c_elementData_915e3 cJx4a65c_elementData_915e3 2 (some (.object "java/lang/Object")), Cond.methodLink RX1 62 yX1_close, Cond.instanceMethod yX1_close, Cond.selects RX1 yX1_close yX1_close, Cond.code yX1_close cX1_close 2 none, Cond.fieldLink RX1 66 "LeaseGates$Loan" "tokens" "I", Cond.methodLink RX1 69 yJx4a65c_remove_915e3, Cond.instanceMethod yJx4a65c_remove_915e3, Cond.selects RJx4a65c yJx4a65c_remove_915e3 yJx4a65c_remove_915e3, Cond.code yJx4a65c_remove_915e3 cJx4a65c_remove_915e3 4 (some (.object "java/lang/Object")), Cond.methodLink RJx4a65c 144 yJx4a65c_fastRemove_b59b0, Cond.instanceMethod yJx4a65c_fastRemove_b59b0, Cond.selects RJx4a65c yJx4a65c_fastRemove_b59b0 yJx4a65c_fastRemove_b59b0, Cond.code yJx4a65c_fastRemove_b59b0 cJx4a65c_fastRemove_b59b0 4 none, Cond.methodLink RJx4a65c 112 arraycopyName, Cond.methodLink RX1 25 yX1_fill, Cond.instanceMethod yX1_fill]
def wsX10_carry_r10 : List Cond := [Cond.selects RX1 yX1_fill yX1_fill, Cond.code yX1_fill cX1_fill 5 none, Cond.fieldLink RX1 22 "LeaseGates$Bucket" "burst" "I", Cond.methodLink RX1 34 Lib.MathLoose.max_long.x, Cond.static Lib.MathLoose.max_long.x, Cond.code Lib.MathLoose.max_long.x Lib.MathLoose.max_long.code 4 (some .long), Cond.methodLink RX1 43 Lib.MathLoose.min_long.x, Cond.static Lib.MathLoose.min_long.x, Cond.code Lib.MathLoose.min_long.x Lib.MathLoose.min_long.code 4 (some .long), Cond.methodLink RX10 110 yX3_hearGrant, Cond.instanceMethod yX3_hearGrant, Cond.selects RX3 yX3_hearGrant yX3_hearGrant, Cond.initialized RX3, Cond.code yX3_hearGrant cX3_hearGrant 2 (some .boolean), Cond.fieldLink RX3 43 "LeaseGates$Message" "birth" "I", Cond.fieldLink RX3 35 "LeaseGates$Gate" "birth" "I", Cond.fieldLink RX3 20 "LeaseGates$Gate" "desks" "[LLeaseGates$Desk;", Cond.fieldLink RX3 46 "LeaseGates$Message" "key" "I", Cond.methodLink RX3 49 yX2_accept, Cond.instanceMethod yX2_accept, Cond.selects RX2 yX2_accept yX2_accept, Cond.initialized RX2, Cond.code yX2_accept cX2_accept 2 (some .boolean), Cond.fieldLink RX2 37 "LeaseGates$Desk" "open" "Z"]
def wsX10_carry_r11 : List Cond := [Cond.fieldLink RX2 115 "LeaseGates$Message" "count" "I", Cond.fieldLink RX2 34 "LeaseGates$Desk" "asks" "I", Cond.fieldLink RX2 118 "LeaseGates$Message" "tokens" "I", Cond.fieldLink RX2 12 "LeaseGates$Desk" "holds" "Ljava/util/ArrayList;", Cond.classLink RX2 55 RX4, Cond.instantiable RX4 4, Cond.initialized RX4, Cond.fieldLink RX2 41 "LeaseGates$Desk" "openSince" "I", Cond.methodLink RX2 119 yX4_init, Cond.instanceMethod yX4_init, Cond.code yX4_init cX4_init 3 none, Cond.methodLink RX4 1 objectInit, Cond.fieldLink RX4 7 "LeaseGates$Message" "loan" "I", Cond.fieldLink RX4 13 "LeaseGates$Hold" "loan" "I", Cond.fieldLink RX4 16 "LeaseGates$Hold" "asked" "I", Cond.fieldLink RX4 19 "LeaseGates$Message" "loanLength" "I", Cond.fieldLink RX4 22 "LeaseGates$Hold" "span" "I", Cond.fieldLink RX4 25 "LeaseGates$Message" "tokens" "I", Cond.fieldLink RX4 28 "LeaseGates$Hold" "tokens" "I", Cond.methodLink RX2 122 yJx4a65c_add_9ea2d]
def wsX10_carry : List Cond := .code yX10_carry cX10_carry 3 (some .boolean) :: ((wsX10_carry_r1 ++ (wsX10_carry_r2 ++ (wsX10_carry_r3 ++ (wsX10_carry_r4 ++ (wsX10_carry_r5 ++ (wsX10_carry_r6 ++ (wsX10_carry_r7 ++ (wsX10_carry_r8 ++ (wsX10_carry_r9 ++ (wsX10_carry_r10 ++ wsX10_carry_r11)))))))))) ++ wsX60 ++ wsX100 ++ wsX70 ++ wsX80 ++ wsX00 ++ wsX90 ++ wsX10 ++ wsX50 ++ wsJx4a65c0 ++ wsX30 ++ wsX20 ++ wsX40 ++ (vx_atS RX10 196 "java/lang/IllegalArgumentException" ["java/lang/RuntimeException", "java/lang/Exception"]).filter goodWord)
def wsX10_drop : List Cond := .code yX10_drop cX10_drop 2 none :: ([.fieldLink RX10 19 "LeaseGates" "post" "LLeaseGates$Post;", .methodLink RX10 90 yX10_requireMessage, .instanceMethod yX10_requireMessage, .selects RX10 yX10_requireMessage yX10_requireMessage, .initialized RX10, .code yX10_requireMessage cX10_requireMessage 3 (some (.object "LeaseGates$Message")), .classLink RX10 192 "java/lang/IllegalArgumentException", .initialized "java/lang/IllegalArgumentException", .methodLink RX10 189 yX7_find, .instanceMethod yX7_find, .selects RX7 yX7_find yX7_find, .initialized RX7, .code yX7_find cX7_find 2 (some (.object "LeaseGates$Message")), .fieldLink RX7 17 "LeaseGates$Post" "count" "I", .fieldLink RX7 11 "LeaseGates$Post" "slots" "[LLeaseGates$Message;", .methodLink RX10 113 yX7_discard, .instanceMethod yX7_discard, .selects RX7 yX7_discard yX7_discard, .code yX7_discard cX7_discard 2 none] ++ wsX100 ++ wsX70 ++ (vx_atS RX10 196 "java/lang/IllegalArgumentException" ["java/lang/RuntimeException", "java/lang/Exception"]).filter goodWord)
def wsX10_tick_r1 : List Cond := [Cond.fieldLink RX10 10 "LeaseGates" "lender" "LLeaseGates$Root;", Cond.fieldLink RX10 25 "LeaseGates" "spenders" "[LLeaseGates$Gate;", Cond.fieldLink RX10 119 "LeaseGates$Gate" "ticker" "LLeaseGates$Ticker;", Cond.methodLink RX10 36 yX10_requireWithin, Cond.static yX10_requireWithin, Cond.initialized RX10, Cond.code yX10_requireWithin cX10_requireWithin 3 none, Cond.classLink RX10 192 "java/lang/IllegalArgumentException", Cond.initialized "java/lang/IllegalArgumentException", Cond.methodLink RX10 116 yX8_advance, Cond.instanceMethod yX8_advance, Cond.selects RX8 yX8_advance yX8_advance, Cond.initialized RX8, Cond.code yX8_advance cX8_advance 4 none, Cond.fieldLink RX8 12 "LeaseGates$Root" "ticker" "LLeaseGates$Ticker;", Cond.fieldLink RX8 20 "LeaseGates$Root" "buckets" "[LLeaseGates$Bucket;", Cond.methodLink RX8 40 yX9_now, Cond.instanceMethod yX9_now, Cond.selects RX9 yX9_now yX9_now, Cond.initialized RX9, Cond.code yX9_now cX9_now 1 (some .int), Cond.fieldLink RX9 13 "LeaseGates$Ticker" "thousandths" "J", Cond.constantLong RX9 17 (1000), Cond.methodLink RX8 44 yX9_advance]
def wsX10_tick_r2 : List Cond := [Cond.instanceMethod yX9_advance, Cond.selects RX9 yX9_advance yX9_advance, Cond.code yX9_advance cX9_advance 2 none, Cond.fieldLink RX9 7 "LeaseGates$Ticker" "pace" "I", Cond.methodLink RX8 48 yX1_pass, Cond.instanceMethod yX1_pass, Cond.selects RX1 yX1_pass yX1_pass, Cond.initialized RX1, Cond.code yX1_pass cX1_pass 7 none, Cond.fieldLink RX1 12 "LeaseGates$Bucket" "loans" "Ljava/util/ArrayList;", Cond.classLink RX1 57 "LeaseGates$Loan", Cond.fieldLink RX1 59 "LeaseGates$Loan" "end" "I", Cond.fieldLink RX1 18 "LeaseGates$Bucket" "rate" "I", Cond.methodLink RX1 46 yJx4a65c_size_8abf5, Cond.instanceMethod yJx4a65c_size_8abf5, Cond.selects RJx4a65c yJx4a65c_size_8abf5 yJx4a65c_size_8abf5, Cond.initialized RJx4a65c, Cond.code yJx4a65c_size_8abf5 cJx4a65c_size_8abf5 1 (some .int), Cond.fieldLink RJx4a65c 48 "java/util/ArrayList" "size" "I", Cond.methodLink RX1 50 yX1_loanThatEndsFirst, Cond.instanceMethod yX1_loanThatEndsFirst, Cond.selects RX1 yX1_loanThatEndsFirst yX1_loanThatEndsFirst, Cond.code yX1_loanThatEndsFirst cX1_loanThatEndsFirst 3 (some .int), Cond.methodLink RX1 53 yJx4a65c_get_915e3]
def wsX10_tick_r3 : List Cond := [Cond.instanceMethod yJx4a65c_get_915e3, Cond.selects RJx4a65c yJx4a65c_get_915e3 yJx4a65c_get_915e3, Cond.code yJx4a65c_get_915e3 cJx4a65c_get_915e3 2 (some (.object "java/lang/Object")), Cond.methodLink RJx4a65c 118 yJ15_checkIndex_7cf53, Cond.static yJ15_checkIndex_7cf53, Cond.initialized RJ15, Cond.code yJ15_checkIndex_7cf53 cJ15_checkIndex_7cf53 2 (some .int), Cond.methodLink RJ15 105 yJ3_checkIndex_8e157, Cond.static yJ3_checkIndex_8e157, Cond.initialized RJ3, Cond.code yJ3_checkIndex_8e157 cJ3_checkIndex_8e157 3 (some .int), Cond.methodLink RJx4a65c 123 yJx4a65c_elementData_915e3, Cond.instanceMethod yJx4a65c_elementData_915e3, Cond.selects RJx4a65c yJx4a65c_elementData_915e3 yJx4a65c_elementData_915e3, Cond.code yJx4a65c_elementData_915e3 cJx4a65c_elementData_915e3 2 (some (.object "java/lang/Object")), Cond.fieldLink RJx4a65c 9 "java/util/ArrayList" "elementData" "[Ljava/lang/Object;", Cond.methodLink RX1 25 yX1_fill, Cond.instanceMethod yX1_fill, Cond.selects RX1 yX1_fill yX1_fill, Cond.code yX1_fill cX1_fill 5 none, Cond.constantLong RX1 29 (1000), Cond.fieldLink RX1 22 "LeaseGates$Bucket" "burst" "I", Cond.fieldLink RX1 31 "LeaseGates$Bucket" "lent" "I", Cond.methodLink RX1 34 Lib.MathLoose.max_long.x]
def wsX10_tick_r4 : List Cond := [Cond.static Lib.MathLoose.max_long.x, Cond.initialized "java/lang/Math", Cond.code Lib.MathLoose.max_long.x Lib.MathLoose.max_long.code 4 (some .long), Cond.fieldLink RX1 40 "LeaseGates$Bucket" "level" "I", Cond.methodLink RX1 43 Lib.MathLoose.min_long.x, Cond.static Lib.MathLoose.min_long.x, Cond.code Lib.MathLoose.min_long.x Lib.MathLoose.min_long.code 4 (some .long), Cond.methodLink RX1 62 yX1_close, Cond.instanceMethod yX1_close, Cond.selects RX1 yX1_close yX1_close, Cond.code yX1_close cX1_close 2 none, Cond.fieldLink RX1 66 "LeaseGates$Loan" "tokens" "I", Cond.methodLink RX1 69 yJx4a65c_remove_915e3, Cond.instanceMethod yJx4a65c_remove_915e3, Cond.selects RJx4a65c yJx4a65c_remove_915e3 yJx4a65c_remove_915e3, Cond.code yJx4a65c_remove_915e3 cJx4a65c_remove_915e3 4 (some (.object "java/lang/Object")), Cond.methodLink RJx4a65c 144 yJx4a65c_fastRemove_b59b0, Cond.instanceMethod yJx4a65c_fastRemove_b59b0, Cond.selects RJx4a65c yJx4a65c_fastRemove_b59b0 yJx4a65c_fastRemove_b59b0, Cond.code yJx4a65c_fastRemove_b59b0 cJx4a65c_fastRemove_b59b0 4 none, Cond.fieldLink RJx4a65c 63 "java/util/ArrayList" "modCount" "I", Cond.sameField "java/util/ArrayList" "java/util/AbstractList" "modCount" "I", Cond.methodLink RJx4a65c 112 arraycopyName, Cond.native arraycopyName]
def wsX10_tick_r5 : List Cond := [Cond.static arraycopyName, Cond.initialized "java/lang/System", Cond.methodLink RX10 123 yX9_advance]
def wsX10_tick : List Cond := .code yX10_tick cX10_tick 3 none :: ((wsX10_tick_r1 ++ (wsX10_tick_r2 ++ (wsX10_tick_r3 ++ (wsX10_tick_r4 ++ wsX10_tick_r5)))) ++ wsX100 ++ wsX30 ++ wsX80 ++ wsX90 ++ wsX10 ++ wsX50 ++ wsJx4a65c0 ++ (vx_atS RX10 196 "java/lang/IllegalArgumentException" ["java/lang/RuntimeException", "java/lang/Exception"]).filter goodWord)
def wsX10_restart_r1 : List Cond := [Cond.fieldLink RX10 25 "LeaseGates" "spenders" "[LLeaseGates$Gate;", Cond.methodLink RX10 55 yX10_requireGate, Cond.static yX10_requireGate, Cond.initialized RX10, Cond.code yX10_requireGate cX10_requireGate 1 none, Cond.methodLink RX10 36 yX10_requireWithin, Cond.static yX10_requireWithin, Cond.code yX10_requireWithin cX10_requireWithin 3 none, Cond.classLink RX10 192 "java/lang/IllegalArgumentException", Cond.initialized "java/lang/IllegalArgumentException", Cond.methodLink RX10 124 yX3_startAnew, Cond.instanceMethod yX3_startAnew, Cond.selects RX3 yX3_startAnew yX3_startAnew, Cond.initialized RX3, Cond.code yX3_startAnew cX3_startAnew 2 (some .int), Cond.fieldLink RX3 20 "LeaseGates$Gate" "desks" "[LLeaseGates$Desk;", Cond.fieldLink RX3 35 "LeaseGates$Gate" "birth" "I", Cond.methodLink RX3 53 yX2_clear, Cond.instanceMethod yX2_clear, Cond.selects RX2 yX2_clear yX2_clear, Cond.initialized RX2, Cond.code yX2_clear cX2_clear 1 none, Cond.fieldLink RX2 12 "LeaseGates$Desk" "holds" "Ljava/util/ArrayList;", Cond.fieldLink RX2 28 "LeaseGates$Desk" "demand" "I"]
def wsX10_restart_r2 : List Cond := [Cond.fieldLink RX2 31 "LeaseGates$Desk" "use" "I", Cond.fieldLink RX2 34 "LeaseGates$Desk" "asks" "I", Cond.fieldLink RX2 37 "LeaseGates$Desk" "open" "Z", Cond.fieldLink RX2 41 "LeaseGates$Desk" "openSince" "I", Cond.fieldLink RX2 44 "LeaseGates$Desk" "refusals" "I", Cond.methodLink RX2 25 yJx4a65c_clear_da8c8, Cond.instanceMethod yJx4a65c_clear_da8c8, Cond.selects RJx4a65c yJx4a65c_clear_da8c8 yJx4a65c_clear_da8c8, Cond.initialized RJx4a65c, Cond.code yJx4a65c_clear_da8c8 cJx4a65c_clear_da8c8 4 none, Cond.fieldLink RJx4a65c 63 "java/util/ArrayList" "modCount" "I", Cond.sameField "java/util/ArrayList" "java/util/AbstractList" "modCount" "I", Cond.fieldLink RJx4a65c 9 "java/util/ArrayList" "elementData" "[Ljava/lang/Object;", Cond.fieldLink RJx4a65c 48 "java/util/ArrayList" "size" "I"]
def wsX10_restart : List Cond := .code yX10_restart cX10_restart 2 (some .int) :: ((wsX10_restart_r1 ++ wsX10_restart_r2) ++ wsX100 ++ wsX30 ++ wsX20 ++ wsJx4a65c0 ++ (vx_atS RX10 196 "java/lang/IllegalArgumentException" ["java/lang/RuntimeException", "java/lang/Exception"]).filter goodWord)
def wsX10_root : List Cond := .code yX10_root cX10_root 4 (some .int) :: ([.fieldLink RX10 10 "LeaseGates" "lender" "LLeaseGates$Root;", .fieldLink RX10 41 "LeaseGates$Root" "buckets" "[LLeaseGates$Bucket;", .fieldLink RX10 80 "LeaseGates$Bucket" "spentAtGates" "I", .fieldLink RX10 128 "LeaseGates$Bucket" "level" "I", .fieldLink RX10 131 "LeaseGates$Bucket" "lent" "I", .fieldLink RX10 134 "LeaseGates$Bucket" "loans" "Ljava/util/ArrayList;", .methodLink RX10 32 yX10_requireKey, .static yX10_requireKey, .initialized RX10, .code yX10_requireKey cX10_requireKey 1 none, .methodLink RX10 36 yX10_requireWithin, .static yX10_requireWithin, .code yX10_requireWithin cX10_requireWithin 3 none, .classLink RX10 192 "java/lang/IllegalArgumentException", .initialized "java/lang/IllegalArgumentException", .methodLink RX10 138 yJx4a65c_size_8abf5, .instanceMethod yJx4a65c_size_8abf5, .selects RJx4a65c yJx4a65c_size_8abf5 yJx4a65c_size_8abf5, .initialized RJx4a65c, .code yJx4a65c_size_8abf5 cJx4a65c_size_8abf5 1 (some .int), .fieldLink RJx4a65c 48 "java/util/ArrayList" "size" "I"] ++ wsX100 ++ wsX80 ++ wsX10 ++ wsJx4a65c0 ++ (vx_atS RX10 196 "java/lang/IllegalArgumentException" ["java/lang/RuntimeException", "java/lang/Exception"]).filter goodWord)
def wsX10_gate_r1 : List Cond := [Cond.fieldLink RX10 25 "LeaseGates" "spenders" "[LLeaseGates$Gate;", Cond.fieldLink RX10 143 "LeaseGates$Gate" "desks" "[LLeaseGates$Desk;", Cond.fieldLink RX10 119 "LeaseGates$Gate" "ticker" "LLeaseGates$Ticker;", Cond.fieldLink RX10 156 "LeaseGates$Desk" "holds" "Ljava/util/ArrayList;", Cond.fieldLink RX10 159 "LeaseGates$Desk" "demand" "I", Cond.fieldLink RX10 162 "LeaseGates$Desk" "use" "I", Cond.fieldLink RX10 165 "LeaseGates$Desk" "asks" "I", Cond.fieldLink RX10 168 "LeaseGates$Desk" "open" "Z", Cond.fieldLink RX10 172 "LeaseGates$Desk" "refusals" "I", Cond.methodLink RX10 55 yX10_requireGate, Cond.static yX10_requireGate, Cond.initialized RX10, Cond.code yX10_requireGate cX10_requireGate 1 none, Cond.methodLink RX10 36 yX10_requireWithin, Cond.static yX10_requireWithin, Cond.code yX10_requireWithin cX10_requireWithin 3 none, Cond.classLink RX10 192 "java/lang/IllegalArgumentException", Cond.initialized "java/lang/IllegalArgumentException", Cond.methodLink RX10 32 yX10_requireKey, Cond.static yX10_requireKey, Cond.code yX10_requireKey cX10_requireKey 1 none, Cond.methodLink RX10 147 yX9_now, Cond.instanceMethod yX9_now, Cond.selects RX9 yX9_now yX9_now]
def wsX10_gate_r2 : List Cond := [Cond.initialized RX9, Cond.code yX9_now cX9_now 1 (some .int), Cond.fieldLink RX9 13 "LeaseGates$Ticker" "thousandths" "J", Cond.constantLong RX9 17 (1000), Cond.methodLink RX10 150 yX2_liveTokens, Cond.instanceMethod yX2_liveTokens, Cond.selects RX2 yX2_liveTokens yX2_liveTokens, Cond.initialized RX2, Cond.code yX2_liveTokens cX2_liveTokens 5 (some .int), Cond.fieldLink RX2 12 "LeaseGates$Desk" "holds" "Ljava/util/ArrayList;", Cond.classLink RX2 55 "LeaseGates$Hold", Cond.fieldLink RX2 61 "LeaseGates$Hold" "tokens" "I", Cond.methodLink RX2 47 yJx4a65c_size_8abf5, Cond.instanceMethod yJx4a65c_size_8abf5, Cond.selects RJx4a65c yJx4a65c_size_8abf5 yJx4a65c_size_8abf5, Cond.initialized RJx4a65c, Cond.code yJx4a65c_size_8abf5 cJx4a65c_size_8abf5 1 (some .int), Cond.fieldLink RJx4a65c 48 "java/util/ArrayList" "size" "I", Cond.methodLink RX2 51 yJx4a65c_get_915e3, Cond.instanceMethod yJx4a65c_get_915e3, Cond.selects RJx4a65c yJx4a65c_get_915e3 yJx4a65c_get_915e3, Cond.code yJx4a65c_get_915e3 cJx4a65c_get_915e3 2 (some (.object "java/lang/Object")), Cond.methodLink RJx4a65c 118 yJ15_checkIndex_7cf53, Cond.static yJ15_checkIndex_7cf53]
def wsX10_gate_r3 : List Cond := [Cond.initialized RJ15, Cond.code yJ15_checkIndex_7cf53 cJ15_checkIndex_7cf53 2 (some .int), Cond.methodLink RJ15 105 yJ3_checkIndex_8e157, Cond.static yJ3_checkIndex_8e157, Cond.initialized RJ3, Cond.code yJ3_checkIndex_8e157 cJ3_checkIndex_8e157 3 (some .int), Cond.methodLink RJx4a65c 123 yJx4a65c_elementData_915e3, Cond.instanceMethod yJx4a65c_elementData_915e3, Cond.selects RJx4a65c yJx4a65c_elementData_915e3 yJx4a65c_elementData_915e3, Cond.code yJx4a65c_elementData_915e3 cJx4a65c_elementData_915e3 2 (some (.object "java/lang/Object")), Cond.fieldLink RJx4a65c 9 "java/util/ArrayList" "elementData" "[Ljava/lang/Object;", Cond.methodLink RX2 57 yX4_isLive, Cond.instanceMethod yX4_isLive, Cond.selects RX4 yX4_isLive yX4_isLive, Cond.initialized RX4, Cond.code yX4_isLive cX4_isLive 2 (some .boolean), Cond.fieldLink RX4 16 "LeaseGates$Hold" "asked" "I", Cond.fieldLink RX4 22 "LeaseGates$Hold" "span" "I", Cond.methodLink RX10 138 yJx4a65c_size_8abf5]
def wsX10_gate : List Cond := .code yX10_gate cX10_gate 5 (some .int) :: ((wsX10_gate_r1 ++ (wsX10_gate_r2 ++ wsX10_gate_r3)) ++ wsX100 ++ wsX30 ++ wsX20 ++ wsX90 ++ wsX40 ++ wsJx4a65c0 ++ (vx_atS RX10 196 "java/lang/IllegalArgumentException" ["java/lang/RuntimeException", "java/lang/Exception"]).filter goodWord)
def wsX10_message_r1 : List Cond := [Cond.fieldLink RX10 94 "LeaseGates$Message" "kind" "I", Cond.fieldLink RX10 107 "LeaseGates$Message" "gate" "I", Cond.fieldLink RX10 175 "LeaseGates$Message" "key" "I", Cond.fieldLink RX10 178 "LeaseGates$Message" "tokens" "I", Cond.fieldLink RX10 181 "LeaseGates$Message" "birth" "I", Cond.fieldLink RX10 184 "LeaseGates$Message" "count" "I", Cond.fieldLink RX10 185 "LeaseGates$Message" "loan" "I", Cond.methodLink RX10 90 yX10_requireMessage, Cond.instanceMethod yX10_requireMessage, Cond.selects RX10 yX10_requireMessage yX10_requireMessage, Cond.initialized RX10, Cond.code yX10_requireMessage cX10_requireMessage 3 (some (.object "LeaseGates$Message")), Cond.classLink RX10 192 "java/lang/IllegalArgumentException", Cond.initialized "java/lang/IllegalArgumentException", Cond.fieldLink RX10 19 "LeaseGates" "post" "LLeaseGates$Post;", Cond.methodLink RX10 189 yX7_find, Cond.instanceMethod yX7_find, Cond.selects RX7 yX7_find yX7_find, Cond.initialized RX7, Cond.code yX7_find cX7_find 2 (some (.object "LeaseGates$Message")), Cond.fieldLink RX7 17 "LeaseGates$Post" "count" "I", Cond.fieldLink RX7 11 "LeaseGates$Post" "slots" "[LLeaseGates$Message;", Cond.methodLink RX10 36 yX10_requireWithin, Cond.static yX10_requireWithin]
def wsX10_message_r2 : List Cond := [Cond.code yX10_requireWithin cX10_requireWithin 3 none]
def wsX10_message : List Cond := .code yX10_message cX10_message 4 (some .int) :: ((wsX10_message_r1 ++ wsX10_message_r2) ++ wsX60 ++ wsX100 ++ wsX70 ++ (vx_atS RX10 196 "java/lang/IllegalArgumentException" ["java/lang/RuntimeException", "java/lang/Exception"]).filter goodWord)
def wsX10_sent : List Cond := .code yX10_sent cX10_sent 1 (some .int) :: ([.fieldLink RX10 19 "LeaseGates" "post" "LLeaseGates$Post;", .fieldLink RX10 83 "LeaseGates$Post" "count" "I"] ++ wsX100 ++ wsX70)
def wsX10_clock : List Cond := .code yX10_clock cX10_clock 2 (some .int) :: ([.methodLink RX10 36 yX10_requireWithin, .static yX10_requireWithin, .initialized RX10, .code yX10_requireWithin cX10_requireWithin 3 none, .classLink RX10 192 "java/lang/IllegalArgumentException", .initialized "java/lang/IllegalArgumentException", .methodLink RX10 67 yX10_tickerOf, .instanceMethod yX10_tickerOf, .selects RX10 yX10_tickerOf yX10_tickerOf, .code yX10_tickerOf cX10_tickerOf 2 (some (.object "LeaseGates$Ticker")), .fieldLink RX10 10 "LeaseGates" "lender" "LLeaseGates$Root;", .fieldLink RX10 188 "LeaseGates$Root" "ticker" "LLeaseGates$Ticker;", .fieldLink RX10 25 "LeaseGates" "spenders" "[LLeaseGates$Gate;", .fieldLink RX10 119 "LeaseGates$Gate" "ticker" "LLeaseGates$Ticker;", .methodLink RX10 147 yX9_now, .instanceMethod yX9_now, .selects RX9 yX9_now yX9_now, .initialized RX9, .code yX9_now cX9_now 1 (some .int), .fieldLink RX9 13 "LeaseGates$Ticker" "thousandths" "J", .constantLong RX9 17 (1000)] ++ wsX100 ++ wsX80 ++ wsX30 ++ wsX90 ++ (vx_atS RX10 196 "java/lang/IllegalArgumentException" ["java/lang/RuntimeException", "java/lang/Exception"]).filter goodWord)
def wsX11_init_r1 : List Cond := [Cond.methodLink RX11 1 objectInit, Cond.instanceMethod objectInit, Cond.code objectInit ⟨#[0xb1]⟩ 1 none, Cond.arrayClass .long, Cond.fieldLink RX11 7 "LeaseGatesModel" "gone" "[J", Cond.arrayClass .int, Cond.fieldLink RX11 13 "LeaseGatesModel" "speeds" "[I", Cond.fieldLink RX11 17 "LeaseGatesModel" "rates" "[I", Cond.fieldLink RX11 20 "LeaseGatesModel" "bursts" "[I", Cond.fieldLink RX11 23 "LeaseGatesModel" "levels" "[J", Cond.fieldLink RX11 26 "LeaseGatesModel" "granted" "[I", Cond.fieldLink RX11 29 "LeaseGatesModel" "loanKey" "[I", Cond.fieldLink RX11 32 "LeaseGatesModel" "loanTokens" "[I", Cond.fieldLink RX11 35 "LeaseGatesModel" "loanEnd" "[I", Cond.fieldLink RX11 38 "LeaseGatesModel" "length" "I", Cond.fieldLink RX11 42 "LeaseGatesModel" "heard" "[I", Cond.fieldLink RX11 45 "LeaseGatesModel" "answered" "[I", Cond.fieldLink RX11 48 "LeaseGatesModel" "lastNumber" "[I", Cond.fieldLink RX11 51 "LeaseGatesModel" "lastTokens" "[I", Cond.fieldLink RX11 54 "LeaseGatesModel" "lastLength" "[I", Cond.arrayClass .boolean, Cond.fieldLink RX11 57 "LeaseGatesModel" "hasAsked" "[Z", Cond.fieldLink RX11 61 "LeaseGatesModel" "askedAt" "[I", Cond.fieldLink RX11 64 "LeaseGatesModel" "weights" "[I"]
def wsX11_init_r2 : List Cond := [Cond.fieldLink RX11 67 "LeaseGatesModel" "births" "[I", Cond.fieldLink RX11 70 "LeaseGatesModel" "demand" "[I", Cond.fieldLink RX11 73 "LeaseGatesModel" "use" "[I", Cond.fieldLink RX11 76 "LeaseGatesModel" "counts" "[I", Cond.fieldLink RX11 79 "LeaseGatesModel" "isOpen" "[Z", Cond.fieldLink RX11 82 "LeaseGatesModel" "since" "[I", Cond.fieldLink RX11 85 "LeaseGatesModel" "refusals" "[I", Cond.fieldLink RX11 88 "LeaseGatesModel" "holder" "[I", Cond.fieldLink RX11 91 "LeaseGatesModel" "held" "[I", Cond.fieldLink RX11 94 "LeaseGatesModel" "heldSince" "[I", Cond.fieldLink RX11 97 "LeaseGatesModel" "heldLength" "[I", Cond.fieldLink RX11 100 "LeaseGatesModel" "told" "[I", Cond.fieldLink RX11 103 "LeaseGatesModel" "isThere" "[Z"]
def wsX11_init : List Cond := .code yX11_init cX11_init 2 none :: ((wsX11_init_r1 ++ wsX11_init_r2) ++ wsX110)
def wsX11_thrown : List Cond := .code yX11_thrown cX11_thrown 1 (some .int) :: ([.fieldLink RX11 106 "LeaseGatesModel" "refusal" "I"] ++ wsX110)
def wsX11_refused : List Cond := .code yX11_refused cX11_refused 2 (some .boolean) :: ([.fieldLink RX11 106 "LeaseGatesModel" "refusal" "I"] ++ wsX110)
def wsX11_isIn : List Cond := .code yX11_isIn cX11_isIn 3 (some .boolean) :: ([])
def wsX11_clockOf : List Cond := .code yX11_clockOf cX11_clockOf 2 (some .int) :: ([.fieldLink RX11 7 "LeaseGatesModel" "gone" "[J", .constantLong RX11 109 (1000)] ++ wsX110)
def wsX11_lent : List Cond := .code yX11_lent cX11_lent 4 (some .int) :: ([.fieldLink RX11 111 "LeaseGatesModel" "loans" "I", .fieldLink RX11 29 "LeaseGatesModel" "loanKey" "[I", .fieldLink RX11 32 "LeaseGatesModel" "loanTokens" "[I"] ++ wsX110)
def wsX11_fill : List Cond := .code yX11_fill cX11_fill 8 none :: ([.constantLong RX11 109 (1000), .fieldLink RX11 20 "LeaseGatesModel" "bursts" "[I", .fieldLink RX11 23 "LeaseGatesModel" "levels" "[J", .methodLink RX11 114 yX11_lent, .instanceMethod yX11_lent, .selects RX11 yX11_lent yX11_lent, .initialized RX11, .code yX11_lent cX11_lent 4 (some .int), .fieldLink RX11 111 "LeaseGatesModel" "loans" "I", .fieldLink RX11 29 "LeaseGatesModel" "loanKey" "[I", .fieldLink RX11 32 "LeaseGatesModel" "loanTokens" "[I"] ++ wsX110)
def wsX11_key_r1 : List Cond := [Cond.constant RX11 122 (100000), Cond.constant RX11 123 (1000000), Cond.fieldLink RX11 17 "LeaseGatesModel" "rates" "[I", Cond.fieldLink RX11 20 "LeaseGatesModel" "bursts" "[I", Cond.fieldLink RX11 23 "LeaseGatesModel" "levels" "[J", Cond.methodLink RX11 118 yX11_isIn, Cond.static yX11_isIn, Cond.initialized RX11, Cond.code yX11_isIn cX11_isIn 3 (some .boolean), Cond.methodLink RX11 124 yX11_refused, Cond.instanceMethod yX11_refused, Cond.selects RX11 yX11_refused yX11_refused, Cond.code yX11_refused cX11_refused 2 (some .boolean), Cond.fieldLink RX11 106 "LeaseGatesModel" "refusal" "I", Cond.methodLink RX11 128 yX11_fill, Cond.instanceMethod yX11_fill, Cond.selects RX11 yX11_fill yX11_fill, Cond.code yX11_fill cX11_fill 8 none, Cond.constantLong RX11 109 (1000), Cond.methodLink RX11 114 yX11_lent, Cond.instanceMethod yX11_lent, Cond.selects RX11 yX11_lent yX11_lent, Cond.code yX11_lent cX11_lent 4 (some .int), Cond.fieldLink RX11 111 "LeaseGatesModel" "loans" "I"]
def wsX11_key_r2 : List Cond := [Cond.fieldLink RX11 29 "LeaseGatesModel" "loanKey" "[I", Cond.fieldLink RX11 32 "LeaseGatesModel" "loanTokens" "[I"]
def wsX11_key : List Cond := .code yX11_key cX11_key 4 none :: ((wsX11_key_r1 ++ wsX11_key_r2) ++ wsX110)
def wsX11_length : List Cond := .code yX11_length cX11_length 2 none :: ([.fieldLink RX11 38 "LeaseGatesModel" "length" "I", .methodLink RX11 118 yX11_isIn, .static yX11_isIn, .initialized RX11, .code yX11_isIn cX11_isIn 3 (some .boolean), .methodLink RX11 124 yX11_refused, .instanceMethod yX11_refused, .selects RX11 yX11_refused yX11_refused, .code yX11_refused cX11_refused 2 (some .boolean), .fieldLink RX11 106 "LeaseGatesModel" "refusal" "I"] ++ wsX110)
def wsX11_weight : List Cond := .code yX11_weight cX11_weight 4 none :: ([.fieldLink RX11 64 "LeaseGatesModel" "weights" "[I", .methodLink RX11 118 yX11_isIn, .static yX11_isIn, .initialized RX11, .code yX11_isIn cX11_isIn 3 (some .boolean), .methodLink RX11 124 yX11_refused, .instanceMethod yX11_refused, .selects RX11 yX11_refused yX11_refused, .code yX11_refused cX11_refused 2 (some .boolean), .fieldLink RX11 106 "LeaseGatesModel" "refusal" "I"] ++ wsX110)
def wsX11_speed : List Cond := .code yX11_speed cX11_speed 3 none :: ([.fieldLink RX11 13 "LeaseGatesModel" "speeds" "[I", .methodLink RX11 118 yX11_isIn, .static yX11_isIn, .initialized RX11, .code yX11_isIn cX11_isIn 3 (some .boolean), .methodLink RX11 124 yX11_refused, .instanceMethod yX11_refused, .selects RX11 yX11_refused yX11_refused, .code yX11_refused cX11_refused 2 (some .boolean), .fieldLink RX11 106 "LeaseGatesModel" "refusal" "I"] ++ wsX110)
def wsX11_nextEnd : List Cond := .code yX11_nextEnd cX11_nextEnd 4 (some .int) :: ([.fieldLink RX11 111 "LeaseGatesModel" "loans" "I", .fieldLink RX11 32 "LeaseGatesModel" "loanTokens" "[I", .fieldLink RX11 35 "LeaseGatesModel" "loanEnd" "[I"] ++ wsX110)
def wsX11_fillAll : List Cond := .code yX11_fillAll cX11_fillAll 3 none :: ([.fieldLink RX11 23 "LeaseGatesModel" "levels" "[J", .fieldLink RX11 17 "LeaseGatesModel" "rates" "[I", .methodLink RX11 128 yX11_fill, .instanceMethod yX11_fill, .selects RX11 yX11_fill yX11_fill, .initialized RX11, .code yX11_fill cX11_fill 8 none, .constantLong RX11 109 (1000), .fieldLink RX11 20 "LeaseGatesModel" "bursts" "[I", .methodLink RX11 114 yX11_lent, .instanceMethod yX11_lent, .selects RX11 yX11_lent yX11_lent, .code yX11_lent cX11_lent 4 (some .int), .fieldLink RX11 111 "LeaseGatesModel" "loans" "I", .fieldLink RX11 29 "LeaseGatesModel" "loanKey" "[I", .fieldLink RX11 32 "LeaseGatesModel" "loanTokens" "[I"] ++ wsX110)
def wsX11_rootGoesOn_r1 : List Cond := [Cond.fieldLink RX11 111 "LeaseGatesModel" "loans" "I", Cond.fieldLink RX11 35 "LeaseGatesModel" "loanEnd" "[I", Cond.fieldLink RX11 32 "LeaseGatesModel" "loanTokens" "[I", Cond.methodLink RX11 132 yX11_nextEnd, Cond.instanceMethod yX11_nextEnd, Cond.selects RX11 yX11_nextEnd yX11_nextEnd, Cond.initialized RX11, Cond.code yX11_nextEnd cX11_nextEnd 4 (some .int), Cond.methodLink RX11 135 yX11_fillAll, Cond.instanceMethod yX11_fillAll, Cond.selects RX11 yX11_fillAll yX11_fillAll, Cond.code yX11_fillAll cX11_fillAll 3 none, Cond.fieldLink RX11 23 "LeaseGatesModel" "levels" "[J", Cond.fieldLink RX11 17 "LeaseGatesModel" "rates" "[I", Cond.methodLink RX11 128 yX11_fill, Cond.instanceMethod yX11_fill, Cond.selects RX11 yX11_fill yX11_fill, Cond.code yX11_fill cX11_fill 8 none, Cond.constantLong RX11 109 (1000), Cond.fieldLink RX11 20 "LeaseGatesModel" "bursts" "[I", Cond.methodLink RX11 114 yX11_lent, Cond.instanceMethod yX11_lent, Cond.selects RX11 yX11_lent yX11_lent, Cond.code yX11_lent cX11_lent 4 (some .int)]
def wsX11_rootGoesOn_r2 : List Cond := [Cond.fieldLink RX11 29 "LeaseGatesModel" "loanKey" "[I"]
def wsX11_rootGoesOn : List Cond := .code yX11_rootGoesOn cX11_rootGoesOn 6 none :: ((wsX11_rootGoesOn_r1 ++ wsX11_rootGoesOn_r2) ++ wsX110)
def wsX11_tick_r1 : List Cond := [Cond.fieldLink RX11 7 "LeaseGatesModel" "gone" "[J", Cond.fieldLink RX11 13 "LeaseGatesModel" "speeds" "[I", Cond.methodLink RX11 118 yX11_isIn, Cond.static yX11_isIn, Cond.initialized RX11, Cond.code yX11_isIn cX11_isIn 3 (some .boolean), Cond.methodLink RX11 124 yX11_refused, Cond.instanceMethod yX11_refused, Cond.selects RX11 yX11_refused yX11_refused, Cond.code yX11_refused cX11_refused 2 (some .boolean), Cond.fieldLink RX11 106 "LeaseGatesModel" "refusal" "I", Cond.methodLink RX11 139 yX11_clockOf, Cond.instanceMethod yX11_clockOf, Cond.selects RX11 yX11_clockOf yX11_clockOf, Cond.code yX11_clockOf cX11_clockOf 2 (some .int), Cond.constantLong RX11 109 (1000), Cond.methodLink RX11 142 yX11_rootGoesOn, Cond.instanceMethod yX11_rootGoesOn, Cond.selects RX11 yX11_rootGoesOn yX11_rootGoesOn, Cond.code yX11_rootGoesOn cX11_rootGoesOn 6 none, Cond.fieldLink RX11 111 "LeaseGatesModel" "loans" "I", Cond.fieldLink RX11 35 "LeaseGatesModel" "loanEnd" "[I", Cond.fieldLink RX11 32 "LeaseGatesModel" "loanTokens" "[I", Cond.methodLink RX11 132 yX11_nextEnd]
def wsX11_tick_r2 : List Cond := [Cond.instanceMethod yX11_nextEnd, Cond.selects RX11 yX11_nextEnd yX11_nextEnd, Cond.code yX11_nextEnd cX11_nextEnd 4 (some .int), Cond.methodLink RX11 135 yX11_fillAll, Cond.instanceMethod yX11_fillAll, Cond.selects RX11 yX11_fillAll yX11_fillAll, Cond.code yX11_fillAll cX11_fillAll 3 none, Cond.fieldLink RX11 23 "LeaseGatesModel" "levels" "[J", Cond.fieldLink RX11 17 "LeaseGatesModel" "rates" "[I", Cond.methodLink RX11 128 yX11_fill, Cond.instanceMethod yX11_fill, Cond.selects RX11 yX11_fill yX11_fill, Cond.code yX11_fill cX11_fill 8 none, Cond.fieldLink RX11 20 "LeaseGatesModel" "bursts" "[I", Cond.methodLink RX11 114 yX11_lent, Cond.instanceMethod yX11_lent, Cond.selects RX11 yX11_lent yX11_lent, Cond.code yX11_lent cX11_lent 4 (some .int), Cond.fieldLink RX11 29 "LeaseGatesModel" "loanKey" "[I"]
def wsX11_tick : List Cond := .code yX11_tick cX11_tick 4 none :: ((wsX11_tick_r1 ++ wsX11_tick_r2) ++ wsX110)
def wsX11_liveTime : List Cond := .code yX11_liveTime cX11_liveTime 1 (some .int) :: ([])
def wsX11_age : List Cond := .code yX11_age cX11_age 3 (some .int) :: ([.fieldLink RX11 94 "LeaseGatesModel" "heldSince" "[I", .methodLink RX11 139 yX11_clockOf, .instanceMethod yX11_clockOf, .selects RX11 yX11_clockOf yX11_clockOf, .initialized RX11, .code yX11_clockOf cX11_clockOf 2 (some .int), .fieldLink RX11 7 "LeaseGatesModel" "gone" "[J", .constantLong RX11 109 (1000)] ++ wsX110)
def wsX11_isHold : List Cond := .code yX11_isHold cX11_isHold 4 (some .boolean) :: ([.fieldLink RX11 88 "LeaseGatesModel" "holder" "[I", .fieldLink RX11 29 "LeaseGatesModel" "loanKey" "[I"] ++ wsX110)
def wsX11_isLive : List Cond := .code yX11_isLive cX11_isLive 3 (some .boolean) :: ([.fieldLink RX11 97 "LeaseGatesModel" "heldLength" "[I", .methodLink RX11 146 yX11_age, .instanceMethod yX11_age, .selects RX11 yX11_age yX11_age, .initialized RX11, .code yX11_age cX11_age 3 (some .int), .fieldLink RX11 94 "LeaseGatesModel" "heldSince" "[I", .methodLink RX11 139 yX11_clockOf, .instanceMethod yX11_clockOf, .selects RX11 yX11_clockOf yX11_clockOf, .code yX11_clockOf cX11_clockOf 2 (some .int), .fieldLink RX11 7 "LeaseGatesModel" "gone" "[J", .constantLong RX11 109 (1000), .methodLink RX11 150 yX11_liveTime, .static yX11_liveTime, .code yX11_liveTime cX11_liveTime 1 (some .int)] ++ wsX110)
def wsX11_live_r1 : List Cond := [Cond.fieldLink RX11 111 "LeaseGatesModel" "loans" "I", Cond.fieldLink RX11 91 "LeaseGatesModel" "held" "[I", Cond.methodLink RX11 153 yX11_isHold, Cond.instanceMethod yX11_isHold, Cond.selects RX11 yX11_isHold yX11_isHold, Cond.initialized RX11, Cond.code yX11_isHold cX11_isHold 4 (some .boolean), Cond.fieldLink RX11 88 "LeaseGatesModel" "holder" "[I", Cond.fieldLink RX11 29 "LeaseGatesModel" "loanKey" "[I", Cond.methodLink RX11 156 yX11_isLive, Cond.instanceMethod yX11_isLive, Cond.selects RX11 yX11_isLive yX11_isLive, Cond.code yX11_isLive cX11_isLive 3 (some .boolean), Cond.fieldLink RX11 97 "LeaseGatesModel" "heldLength" "[I", Cond.methodLink RX11 146 yX11_age, Cond.instanceMethod yX11_age, Cond.selects RX11 yX11_age yX11_age, Cond.code yX11_age cX11_age 3 (some .int), Cond.fieldLink RX11 94 "LeaseGatesModel" "heldSince" "[I", Cond.methodLink RX11 139 yX11_clockOf, Cond.instanceMethod yX11_clockOf, Cond.selects RX11 yX11_clockOf yX11_clockOf, Cond.code yX11_clockOf cX11_clockOf 2 (some .int), Cond.fieldLink RX11 7 "LeaseGatesModel" "gone" "[J"]
def wsX11_live_r2 : List Cond := [Cond.constantLong RX11 109 (1000), Cond.methodLink RX11 150 yX11_liveTime, Cond.static yX11_liveTime, Cond.code yX11_liveTime cX11_liveTime 1 (some .int)]
def wsX11_live : List Cond := .code yX11_live cX11_live 5 (some .int) :: ((wsX11_live_r1 ++ wsX11_live_r2) ++ wsX110)
def wsX11_isPlace : List Cond := .code yX11_isPlace cX11_isPlace 2 (some .boolean) :: ([.methodLink RX11 118 yX11_isIn, .static yX11_isIn, .initialized RX11, .code yX11_isIn cX11_isIn 3 (some .boolean)])
def wsX11_take_r1 : List Cond := [Cond.fieldLink RX11 73 "LeaseGatesModel" "use" "[I", Cond.fieldLink RX11 85 "LeaseGatesModel" "refusals" "[I", Cond.fieldLink RX11 111 "LeaseGatesModel" "loans" "I", Cond.fieldLink RX11 97 "LeaseGatesModel" "heldLength" "[I", Cond.fieldLink RX11 91 "LeaseGatesModel" "held" "[I", Cond.fieldLink RX11 88 "LeaseGatesModel" "holder" "[I", Cond.fieldLink RX11 26 "LeaseGatesModel" "granted" "[I", Cond.methodLink RX11 160 yX11_isPlace, Cond.static yX11_isPlace, Cond.initialized RX11, Cond.code yX11_isPlace cX11_isPlace 2 (some .boolean), Cond.methodLink RX11 118 yX11_isIn, Cond.static yX11_isIn, Cond.code yX11_isIn cX11_isIn 3 (some .boolean), Cond.methodLink RX11 124 yX11_refused, Cond.instanceMethod yX11_refused, Cond.selects RX11 yX11_refused yX11_refused, Cond.code yX11_refused cX11_refused 2 (some .boolean), Cond.fieldLink RX11 106 "LeaseGatesModel" "refusal" "I", Cond.methodLink RX11 163 yX11_live, Cond.instanceMethod yX11_live, Cond.selects RX11 yX11_live yX11_live, Cond.code yX11_live cX11_live 5 (some .int), Cond.methodLink RX11 153 yX11_isHold]
def wsX11_take_r2 : List Cond := [Cond.instanceMethod yX11_isHold, Cond.selects RX11 yX11_isHold yX11_isHold, Cond.code yX11_isHold cX11_isHold 4 (some .boolean), Cond.fieldLink RX11 29 "LeaseGatesModel" "loanKey" "[I", Cond.methodLink RX11 156 yX11_isLive, Cond.instanceMethod yX11_isLive, Cond.selects RX11 yX11_isLive yX11_isLive, Cond.code yX11_isLive cX11_isLive 3 (some .boolean), Cond.methodLink RX11 146 yX11_age, Cond.instanceMethod yX11_age, Cond.selects RX11 yX11_age yX11_age, Cond.code yX11_age cX11_age 3 (some .int), Cond.fieldLink RX11 94 "LeaseGatesModel" "heldSince" "[I", Cond.methodLink RX11 139 yX11_clockOf, Cond.instanceMethod yX11_clockOf, Cond.selects RX11 yX11_clockOf yX11_clockOf, Cond.code yX11_clockOf cX11_clockOf 2 (some .int), Cond.fieldLink RX11 7 "LeaseGatesModel" "gone" "[J", Cond.constantLong RX11 109 (1000), Cond.methodLink RX11 150 yX11_liveTime, Cond.static yX11_liveTime, Cond.code yX11_liveTime cX11_liveTime 1 (some .int)]
def wsX11_take : List Cond := .code yX11_take cX11_take 10 (some .boolean) :: ((wsX11_take_r1 ++ wsX11_take_r2) ++ wsX110)
def wsX11_send : List Cond := .code yX11_send cX11_send 9 (some .int) :: ([.fieldLink RX11 166 "LeaseGatesModel" "messages" "I", .fieldLink RX11 100 "LeaseGatesModel" "told" "[I", .fieldLink RX11 103 "LeaseGatesModel" "isThere" "[Z"] ++ wsX110)
def wsX11_giveBack_r1 : List Cond := [Cond.fieldLink RX11 111 "LeaseGatesModel" "loans" "I", Cond.fieldLink RX11 97 "LeaseGatesModel" "heldLength" "[I", Cond.fieldLink RX11 88 "LeaseGatesModel" "holder" "[I", Cond.fieldLink RX11 91 "LeaseGatesModel" "held" "[I", Cond.fieldLink RX11 67 "LeaseGatesModel" "births" "[I", Cond.methodLink RX11 153 yX11_isHold, Cond.instanceMethod yX11_isHold, Cond.selects RX11 yX11_isHold yX11_isHold, Cond.initialized RX11, Cond.code yX11_isHold cX11_isHold 4 (some .boolean), Cond.fieldLink RX11 29 "LeaseGatesModel" "loanKey" "[I", Cond.methodLink RX11 156 yX11_isLive, Cond.instanceMethod yX11_isLive, Cond.selects RX11 yX11_isLive yX11_isLive, Cond.code yX11_isLive cX11_isLive 3 (some .boolean), Cond.methodLink RX11 146 yX11_age, Cond.instanceMethod yX11_age, Cond.selects RX11 yX11_age yX11_age, Cond.code yX11_age cX11_age 3 (some .int), Cond.fieldLink RX11 94 "LeaseGatesModel" "heldSince" "[I", Cond.methodLink RX11 139 yX11_clockOf, Cond.instanceMethod yX11_clockOf, Cond.selects RX11 yX11_clockOf yX11_clockOf, Cond.code yX11_clockOf cX11_clockOf 2 (some .int)]
def wsX11_giveBack_r2 : List Cond := [Cond.fieldLink RX11 7 "LeaseGatesModel" "gone" "[J", Cond.constantLong RX11 109 (1000), Cond.methodLink RX11 150 yX11_liveTime, Cond.static yX11_liveTime, Cond.code yX11_liveTime cX11_liveTime 1 (some .int), Cond.methodLink RX11 169 yX11_send, Cond.instanceMethod yX11_send, Cond.selects RX11 yX11_send yX11_send, Cond.code yX11_send cX11_send 9 (some .int), Cond.fieldLink RX11 166 "LeaseGatesModel" "messages" "I", Cond.fieldLink RX11 100 "LeaseGatesModel" "told" "[I", Cond.fieldLink RX11 103 "LeaseGatesModel" "isThere" "[Z"]
def wsX11_giveBack : List Cond := .code yX11_giveBack cX11_giveBack 7 (some .int) :: ((wsX11_giveBack_r1 ++ wsX11_giveBack_r2) ++ wsX110)
def wsX11_work_r1 : List Cond := [Cond.fieldLink RX11 70 "LeaseGatesModel" "demand" "[I", Cond.fieldLink RX11 73 "LeaseGatesModel" "use" "[I", Cond.fieldLink RX11 79 "LeaseGatesModel" "isOpen" "[Z", Cond.fieldLink RX11 82 "LeaseGatesModel" "since" "[I", Cond.fieldLink RX11 76 "LeaseGatesModel" "counts" "[I", Cond.fieldLink RX11 67 "LeaseGatesModel" "births" "[I", Cond.methodLink RX11 118 yX11_isIn, Cond.static yX11_isIn, Cond.initialized RX11, Cond.code yX11_isIn cX11_isIn 3 (some .boolean), Cond.methodLink RX11 124 yX11_refused, Cond.instanceMethod yX11_refused, Cond.selects RX11 yX11_refused yX11_refused, Cond.code yX11_refused cX11_refused 2 (some .boolean), Cond.fieldLink RX11 106 "LeaseGatesModel" "refusal" "I", Cond.methodLink RX11 173 yX11_giveBack, Cond.instanceMethod yX11_giveBack, Cond.selects RX11 yX11_giveBack yX11_giveBack, Cond.code yX11_giveBack cX11_giveBack 7 (some .int), Cond.fieldLink RX11 111 "LeaseGatesModel" "loans" "I", Cond.fieldLink RX11 97 "LeaseGatesModel" "heldLength" "[I", Cond.fieldLink RX11 88 "LeaseGatesModel" "holder" "[I", Cond.fieldLink RX11 91 "LeaseGatesModel" "held" "[I", Cond.methodLink RX11 153 yX11_isHold]
def wsX11_work_r2 : List Cond := [Cond.instanceMethod yX11_isHold, Cond.selects RX11 yX11_isHold yX11_isHold, Cond.code yX11_isHold cX11_isHold 4 (some .boolean), Cond.fieldLink RX11 29 "LeaseGatesModel" "loanKey" "[I", Cond.methodLink RX11 156 yX11_isLive, Cond.instanceMethod yX11_isLive, Cond.selects RX11 yX11_isLive yX11_isLive, Cond.code yX11_isLive cX11_isLive 3 (some .boolean), Cond.methodLink RX11 146 yX11_age, Cond.instanceMethod yX11_age, Cond.selects RX11 yX11_age yX11_age, Cond.code yX11_age cX11_age 3 (some .int), Cond.fieldLink RX11 94 "LeaseGatesModel" "heldSince" "[I", Cond.methodLink RX11 139 yX11_clockOf, Cond.instanceMethod yX11_clockOf, Cond.selects RX11 yX11_clockOf yX11_clockOf, Cond.code yX11_clockOf cX11_clockOf 2 (some .int), Cond.fieldLink RX11 7 "LeaseGatesModel" "gone" "[J", Cond.constantLong RX11 109 (1000), Cond.methodLink RX11 150 yX11_liveTime, Cond.static yX11_liveTime, Cond.code yX11_liveTime cX11_liveTime 1 (some .int), Cond.methodLink RX11 169 yX11_send, Cond.instanceMethod yX11_send]
def wsX11_work_r3 : List Cond := [Cond.selects RX11 yX11_send yX11_send, Cond.code yX11_send cX11_send 9 (some .int), Cond.fieldLink RX11 166 "LeaseGatesModel" "messages" "I", Cond.fieldLink RX11 100 "LeaseGatesModel" "told" "[I", Cond.fieldLink RX11 103 "LeaseGatesModel" "isThere" "[Z", Cond.methodLink RX11 163 yX11_live, Cond.instanceMethod yX11_live, Cond.selects RX11 yX11_live yX11_live, Cond.code yX11_live cX11_live 5 (some .int)]
def wsX11_work : List Cond := .code yX11_work cX11_work 6 (some .int) :: ((wsX11_work_r1 ++ (wsX11_work_r2 ++ wsX11_work_r3)) ++ wsX110)
def wsX11_restart : List Cond := .code yX11_restart cX11_restart 3 (some .int) :: ([.fieldLink RX11 67 "LeaseGatesModel" "births" "[I", .fieldLink RX11 111 "LeaseGatesModel" "loans" "I", .fieldLink RX11 88 "LeaseGatesModel" "holder" "[I", .fieldLink RX11 70 "LeaseGatesModel" "demand" "[I", .fieldLink RX11 73 "LeaseGatesModel" "use" "[I", .fieldLink RX11 76 "LeaseGatesModel" "counts" "[I", .fieldLink RX11 79 "LeaseGatesModel" "isOpen" "[Z", .fieldLink RX11 82 "LeaseGatesModel" "since" "[I", .fieldLink RX11 85 "LeaseGatesModel" "refusals" "[I", .methodLink RX11 118 yX11_isIn, .static yX11_isIn, .initialized RX11, .code yX11_isIn cX11_isIn 3 (some .boolean), .methodLink RX11 124 yX11_refused, .instanceMethod yX11_refused, .selects RX11 yX11_refused yX11_refused, .code yX11_refused cX11_refused 2 (some .boolean), .fieldLink RX11 106 "LeaseGatesModel" "refusal" "I"] ++ wsX110)
def wsX11_isMessage : List Cond := .code yX11_isMessage cX11_isMessage 2 (some .boolean) :: ([.fieldLink RX11 166 "LeaseGatesModel" "messages" "I", .fieldLink RX11 103 "LeaseGatesModel" "isThere" "[Z"] ++ wsX110)
def wsX11_sendGrant : List Cond := .code yX11_sendGrant cX11_sendGrant 5 none :: ([.fieldLink RX11 166 "LeaseGatesModel" "messages" "I", .fieldLink RX11 51 "LeaseGatesModel" "lastTokens" "[I", .fieldLink RX11 42 "LeaseGatesModel" "heard" "[I", .fieldLink RX11 45 "LeaseGatesModel" "answered" "[I", .fieldLink RX11 48 "LeaseGatesModel" "lastNumber" "[I", .fieldLink RX11 100 "LeaseGatesModel" "told" "[I", .fieldLink RX11 54 "LeaseGatesModel" "lastLength" "[I", .methodLink RX11 169 yX11_send, .instanceMethod yX11_send, .selects RX11 yX11_send yX11_send, .initialized RX11, .code yX11_send cX11_send 9 (some .int), .fieldLink RX11 103 "LeaseGatesModel" "isThere" "[Z"] ++ wsX110)
def wsX11_answer : List Cond := .code yX11_answer cX11_answer 12 none :: ([.fieldLink RX11 57 "LeaseGatesModel" "hasAsked" "[Z", .fieldLink RX11 61 "LeaseGatesModel" "askedAt" "[I", .fieldLink RX11 23 "LeaseGatesModel" "levels" "[J", .constantLong RX11 109 (1000), .fieldLink RX11 64 "LeaseGatesModel" "weights" "[I", .fieldLink RX11 45 "LeaseGatesModel" "answered" "[I", .fieldLink RX11 51 "LeaseGatesModel" "lastTokens" "[I", .fieldLink RX11 54 "LeaseGatesModel" "lastLength" "[I", .fieldLink RX11 38 "LeaseGatesModel" "length" "I", .fieldLink RX11 48 "LeaseGatesModel" "lastNumber" "[I", .fieldLink RX11 111 "LeaseGatesModel" "loans" "I", .fieldLink RX11 29 "LeaseGatesModel" "loanKey" "[I", .fieldLink RX11 32 "LeaseGatesModel" "loanTokens" "[I", .fieldLink RX11 35 "LeaseGatesModel" "loanEnd" "[I", .methodLink RX11 139 yX11_clockOf, .instanceMethod yX11_clockOf, .selects RX11 yX11_clockOf yX11_clockOf, .initialized RX11, .code yX11_clockOf cX11_clockOf 2 (some .int), .fieldLink RX11 7 "LeaseGatesModel" "gone" "[J"] ++ wsX110)
def wsX11_asks_r1 : List Cond := [Cond.fieldLink RX11 42 "LeaseGatesModel" "heard" "[I", Cond.fieldLink RX11 45 "LeaseGatesModel" "answered" "[I", Cond.methodLink RX11 176 yX11_answer, Cond.instanceMethod yX11_answer, Cond.selects RX11 yX11_answer yX11_answer, Cond.initialized RX11, Cond.code yX11_answer cX11_answer 12 none, Cond.fieldLink RX11 57 "LeaseGatesModel" "hasAsked" "[Z", Cond.fieldLink RX11 61 "LeaseGatesModel" "askedAt" "[I", Cond.fieldLink RX11 23 "LeaseGatesModel" "levels" "[J", Cond.constantLong RX11 109 (1000), Cond.fieldLink RX11 64 "LeaseGatesModel" "weights" "[I", Cond.fieldLink RX11 51 "LeaseGatesModel" "lastTokens" "[I", Cond.fieldLink RX11 54 "LeaseGatesModel" "lastLength" "[I", Cond.fieldLink RX11 38 "LeaseGatesModel" "length" "I", Cond.fieldLink RX11 48 "LeaseGatesModel" "lastNumber" "[I", Cond.fieldLink RX11 111 "LeaseGatesModel" "loans" "I", Cond.fieldLink RX11 29 "LeaseGatesModel" "loanKey" "[I", Cond.fieldLink RX11 32 "LeaseGatesModel" "loanTokens" "[I", Cond.fieldLink RX11 35 "LeaseGatesModel" "loanEnd" "[I", Cond.methodLink RX11 139 yX11_clockOf, Cond.instanceMethod yX11_clockOf, Cond.selects RX11 yX11_clockOf yX11_clockOf, Cond.code yX11_clockOf cX11_clockOf 2 (some .int)]
def wsX11_asks_r2 : List Cond := [Cond.fieldLink RX11 7 "LeaseGatesModel" "gone" "[J", Cond.methodLink RX11 180 yX11_sendGrant, Cond.instanceMethod yX11_sendGrant, Cond.selects RX11 yX11_sendGrant yX11_sendGrant, Cond.code yX11_sendGrant cX11_sendGrant 5 none, Cond.fieldLink RX11 166 "LeaseGatesModel" "messages" "I", Cond.fieldLink RX11 100 "LeaseGatesModel" "told" "[I", Cond.methodLink RX11 169 yX11_send, Cond.instanceMethod yX11_send, Cond.selects RX11 yX11_send yX11_send, Cond.code yX11_send cX11_send 9 (some .int), Cond.fieldLink RX11 103 "LeaseGatesModel" "isThere" "[Z"]
def wsX11_asks : List Cond := .code yX11_asks cX11_asks 7 (some .boolean) :: ((wsX11_asks_r1 ++ wsX11_asks_r2) ++ wsX110)
def wsX11_returns : List Cond := .code yX11_returns cX11_returns 6 (some .boolean) :: ([.fieldLink RX11 42 "LeaseGatesModel" "heard" "[I", .fieldLink RX11 32 "LeaseGatesModel" "loanTokens" "[I", .fieldLink RX11 29 "LeaseGatesModel" "loanKey" "[I", .fieldLink RX11 23 "LeaseGatesModel" "levels" "[J", .constantLong RX11 109 (1000), .methodLink RX11 128 yX11_fill, .instanceMethod yX11_fill, .selects RX11 yX11_fill yX11_fill, .initialized RX11, .code yX11_fill cX11_fill 8 none, .fieldLink RX11 20 "LeaseGatesModel" "bursts" "[I", .methodLink RX11 114 yX11_lent, .instanceMethod yX11_lent, .selects RX11 yX11_lent yX11_lent, .code yX11_lent cX11_lent 4 (some .int), .fieldLink RX11 111 "LeaseGatesModel" "loans" "I"] ++ wsX110)
def wsX11_arrives : List Cond := .code yX11_arrives cX11_arrives 5 (some .boolean) :: ([.fieldLink RX11 100 "LeaseGatesModel" "told" "[I", .fieldLink RX11 67 "LeaseGatesModel" "births" "[I", .fieldLink RX11 79 "LeaseGatesModel" "isOpen" "[Z", .fieldLink RX11 76 "LeaseGatesModel" "counts" "[I", .fieldLink RX11 88 "LeaseGatesModel" "holder" "[I", .fieldLink RX11 91 "LeaseGatesModel" "held" "[I", .fieldLink RX11 94 "LeaseGatesModel" "heldSince" "[I", .fieldLink RX11 82 "LeaseGatesModel" "since" "[I", .fieldLink RX11 97 "LeaseGatesModel" "heldLength" "[I"] ++ wsX110)
def wsX11_carry_r1 : List Cond := [Cond.fieldLink RX11 100 "LeaseGatesModel" "told" "[I", Cond.methodLink RX11 183 yX11_isMessage, Cond.instanceMethod yX11_isMessage, Cond.selects RX11 yX11_isMessage yX11_isMessage, Cond.initialized RX11, Cond.code yX11_isMessage cX11_isMessage 2 (some .boolean), Cond.fieldLink RX11 166 "LeaseGatesModel" "messages" "I", Cond.fieldLink RX11 103 "LeaseGatesModel" "isThere" "[Z", Cond.methodLink RX11 124 yX11_refused, Cond.instanceMethod yX11_refused, Cond.selects RX11 yX11_refused yX11_refused, Cond.code yX11_refused cX11_refused 2 (some .boolean), Cond.fieldLink RX11 106 "LeaseGatesModel" "refusal" "I", Cond.methodLink RX11 186 yX11_asks, Cond.instanceMethod yX11_asks, Cond.selects RX11 yX11_asks yX11_asks, Cond.code yX11_asks cX11_asks 7 (some .boolean), Cond.fieldLink RX11 42 "LeaseGatesModel" "heard" "[I", Cond.fieldLink RX11 45 "LeaseGatesModel" "answered" "[I", Cond.methodLink RX11 176 yX11_answer, Cond.instanceMethod yX11_answer, Cond.selects RX11 yX11_answer yX11_answer, Cond.code yX11_answer cX11_answer 12 none, Cond.fieldLink RX11 57 "LeaseGatesModel" "hasAsked" "[Z"]
def wsX11_carry_r2 : List Cond := [Cond.fieldLink RX11 61 "LeaseGatesModel" "askedAt" "[I", Cond.fieldLink RX11 23 "LeaseGatesModel" "levels" "[J", Cond.constantLong RX11 109 (1000), Cond.fieldLink RX11 64 "LeaseGatesModel" "weights" "[I", Cond.fieldLink RX11 51 "LeaseGatesModel" "lastTokens" "[I", Cond.fieldLink RX11 54 "LeaseGatesModel" "lastLength" "[I", Cond.fieldLink RX11 38 "LeaseGatesModel" "length" "I", Cond.fieldLink RX11 48 "LeaseGatesModel" "lastNumber" "[I", Cond.fieldLink RX11 111 "LeaseGatesModel" "loans" "I", Cond.fieldLink RX11 29 "LeaseGatesModel" "loanKey" "[I", Cond.fieldLink RX11 32 "LeaseGatesModel" "loanTokens" "[I", Cond.fieldLink RX11 35 "LeaseGatesModel" "loanEnd" "[I", Cond.methodLink RX11 139 yX11_clockOf, Cond.instanceMethod yX11_clockOf, Cond.selects RX11 yX11_clockOf yX11_clockOf, Cond.code yX11_clockOf cX11_clockOf 2 (some .int), Cond.fieldLink RX11 7 "LeaseGatesModel" "gone" "[J", Cond.methodLink RX11 180 yX11_sendGrant, Cond.instanceMethod yX11_sendGrant, Cond.selects RX11 yX11_sendGrant yX11_sendGrant, Cond.code yX11_sendGrant cX11_sendGrant 5 none, Cond.methodLink RX11 169 yX11_send, Cond.instanceMethod yX11_send, Cond.selects RX11 yX11_send yX11_send]
def wsX11_carry_r3 : List Cond := [Cond.code yX11_send cX11_send 9 (some .int), Cond.methodLink RX11 190 yX11_arrives, Cond.instanceMethod yX11_arrives, Cond.selects RX11 yX11_arrives yX11_arrives, Cond.code yX11_arrives cX11_arrives 5 (some .boolean), Cond.fieldLink RX11 67 "LeaseGatesModel" "births" "[I", Cond.fieldLink RX11 79 "LeaseGatesModel" "isOpen" "[Z", Cond.fieldLink RX11 76 "LeaseGatesModel" "counts" "[I", Cond.fieldLink RX11 88 "LeaseGatesModel" "holder" "[I", Cond.fieldLink RX11 91 "LeaseGatesModel" "held" "[I", Cond.fieldLink RX11 94 "LeaseGatesModel" "heldSince" "[I", Cond.fieldLink RX11 82 "LeaseGatesModel" "since" "[I", Cond.fieldLink RX11 97 "LeaseGatesModel" "heldLength" "[I", Cond.methodLink RX11 193 yX11_returns, Cond.instanceMethod yX11_returns, Cond.selects RX11 yX11_returns yX11_returns, Cond.code yX11_returns cX11_returns 6 (some .boolean), Cond.methodLink RX11 128 yX11_fill, Cond.instanceMethod yX11_fill, Cond.selects RX11 yX11_fill yX11_fill, Cond.code yX11_fill cX11_fill 8 none, Cond.fieldLink RX11 20 "LeaseGatesModel" "bursts" "[I", Cond.methodLink RX11 114 yX11_lent, Cond.instanceMethod yX11_lent]
def wsX11_carry_r4 : List Cond := [Cond.selects RX11 yX11_lent yX11_lent, Cond.code yX11_lent cX11_lent 4 (some .int)]
def wsX11_carry : List Cond := .code yX11_carry cX11_carry 3 (some .boolean) :: ((wsX11_carry_r1 ++ (wsX11_carry_r2 ++ (wsX11_carry_r3 ++ wsX11_carry_r4))) ++ wsX110)
def wsX11_drop : List Cond := .code yX11_drop cX11_drop 2 none :: ([.fieldLink RX11 103 "LeaseGatesModel" "isThere" "[Z", .methodLink RX11 183 yX11_isMessage, .instanceMethod yX11_isMessage, .selects RX11 yX11_isMessage yX11_isMessage, .initialized RX11, .code yX11_isMessage cX11_isMessage 2 (some .boolean), .fieldLink RX11 166 "LeaseGatesModel" "messages" "I", .methodLink RX11 124 yX11_refused, .instanceMethod yX11_refused, .selects RX11 yX11_refused yX11_refused, .code yX11_refused cX11_refused 2 (some .boolean), .fieldLink RX11 106 "LeaseGatesModel" "refusal" "I"] ++ wsX110)
def wsX11_root : List Cond := .code yX11_root cX11_root 5 (some .int) :: ([.fieldLink RX11 111 "LeaseGatesModel" "loans" "I", .fieldLink RX11 29 "LeaseGatesModel" "loanKey" "[I", .fieldLink RX11 32 "LeaseGatesModel" "loanTokens" "[I", .fieldLink RX11 26 "LeaseGatesModel" "granted" "[I", .fieldLink RX11 23 "LeaseGatesModel" "levels" "[J", .methodLink RX11 118 yX11_isIn, .static yX11_isIn, .initialized RX11, .code yX11_isIn cX11_isIn 3 (some .boolean), .methodLink RX11 124 yX11_refused, .instanceMethod yX11_refused, .selects RX11 yX11_refused yX11_refused, .code yX11_refused cX11_refused 2 (some .boolean), .fieldLink RX11 106 "LeaseGatesModel" "refusal" "I", .methodLink RX11 114 yX11_lent, .instanceMethod yX11_lent, .selects RX11 yX11_lent yX11_lent, .code yX11_lent cX11_lent 4 (some .int)] ++ wsX110)
def wsX11_gate_r1 : List Cond := [Cond.fieldLink RX11 111 "LeaseGatesModel" "loans" "I", Cond.fieldLink RX11 70 "LeaseGatesModel" "demand" "[I", Cond.fieldLink RX11 73 "LeaseGatesModel" "use" "[I", Cond.fieldLink RX11 76 "LeaseGatesModel" "counts" "[I", Cond.fieldLink RX11 79 "LeaseGatesModel" "isOpen" "[Z", Cond.fieldLink RX11 85 "LeaseGatesModel" "refusals" "[I", Cond.methodLink RX11 160 yX11_isPlace, Cond.static yX11_isPlace, Cond.initialized RX11, Cond.code yX11_isPlace cX11_isPlace 2 (some .boolean), Cond.methodLink RX11 118 yX11_isIn, Cond.static yX11_isIn, Cond.code yX11_isIn cX11_isIn 3 (some .boolean), Cond.methodLink RX11 124 yX11_refused, Cond.instanceMethod yX11_refused, Cond.selects RX11 yX11_refused yX11_refused, Cond.code yX11_refused cX11_refused 2 (some .boolean), Cond.fieldLink RX11 106 "LeaseGatesModel" "refusal" "I", Cond.methodLink RX11 153 yX11_isHold, Cond.instanceMethod yX11_isHold, Cond.selects RX11 yX11_isHold yX11_isHold, Cond.code yX11_isHold cX11_isHold 4 (some .boolean), Cond.fieldLink RX11 88 "LeaseGatesModel" "holder" "[I", Cond.fieldLink RX11 29 "LeaseGatesModel" "loanKey" "[I"]
def wsX11_gate_r2 : List Cond := [Cond.methodLink RX11 163 yX11_live, Cond.instanceMethod yX11_live, Cond.selects RX11 yX11_live yX11_live, Cond.code yX11_live cX11_live 5 (some .int), Cond.fieldLink RX11 91 "LeaseGatesModel" "held" "[I", Cond.methodLink RX11 156 yX11_isLive, Cond.instanceMethod yX11_isLive, Cond.selects RX11 yX11_isLive yX11_isLive, Cond.code yX11_isLive cX11_isLive 3 (some .boolean), Cond.fieldLink RX11 97 "LeaseGatesModel" "heldLength" "[I", Cond.methodLink RX11 146 yX11_age, Cond.instanceMethod yX11_age, Cond.selects RX11 yX11_age yX11_age, Cond.code yX11_age cX11_age 3 (some .int), Cond.fieldLink RX11 94 "LeaseGatesModel" "heldSince" "[I", Cond.methodLink RX11 139 yX11_clockOf, Cond.instanceMethod yX11_clockOf, Cond.selects RX11 yX11_clockOf yX11_clockOf, Cond.code yX11_clockOf cX11_clockOf 2 (some .int), Cond.fieldLink RX11 7 "LeaseGatesModel" "gone" "[J", Cond.constantLong RX11 109 (1000), Cond.methodLink RX11 150 yX11_liveTime, Cond.static yX11_liveTime, Cond.code yX11_liveTime cX11_liveTime 1 (some .int)]
def wsX11_gate : List Cond := .code yX11_gate cX11_gate 7 (some .int) :: ((wsX11_gate_r1 ++ wsX11_gate_r2) ++ wsX110)
def wsX11_message : List Cond := .code yX11_message cX11_message 3 (some .int) :: ([.fieldLink RX11 100 "LeaseGatesModel" "told" "[I", .methodLink RX11 183 yX11_isMessage, .instanceMethod yX11_isMessage, .selects RX11 yX11_isMessage yX11_isMessage, .initialized RX11, .code yX11_isMessage cX11_isMessage 2 (some .boolean), .fieldLink RX11 166 "LeaseGatesModel" "messages" "I", .fieldLink RX11 103 "LeaseGatesModel" "isThere" "[Z", .methodLink RX11 118 yX11_isIn, .static yX11_isIn, .code yX11_isIn cX11_isIn 3 (some .boolean), .methodLink RX11 124 yX11_refused, .instanceMethod yX11_refused, .selects RX11 yX11_refused yX11_refused, .code yX11_refused cX11_refused 2 (some .boolean), .fieldLink RX11 106 "LeaseGatesModel" "refusal" "I"] ++ wsX110)
def wsX11_sent : List Cond := .code yX11_sent cX11_sent 1 (some .int) :: ([.fieldLink RX11 106 "LeaseGatesModel" "refusal" "I", .fieldLink RX11 166 "LeaseGatesModel" "messages" "I"] ++ wsX110)
def wsX11_clock : List Cond := .code yX11_clock cX11_clock 2 (some .int) :: ([.methodLink RX11 118 yX11_isIn, .static yX11_isIn, .initialized RX11, .code yX11_isIn cX11_isIn 3 (some .boolean), .methodLink RX11 124 yX11_refused, .instanceMethod yX11_refused, .selects RX11 yX11_refused yX11_refused, .code yX11_refused cX11_refused 2 (some .boolean), .fieldLink RX11 106 "LeaseGatesModel" "refusal" "I", .methodLink RX11 139 yX11_clockOf, .instanceMethod yX11_clockOf, .selects RX11 yX11_clockOf yX11_clockOf, .code yX11_clockOf cX11_clockOf 2 (some .int), .fieldLink RX11 7 "LeaseGatesModel" "gone" "[J", .constantLong RX11 109 (1000)] ++ wsX110)
def wsJ9_max_7cf53 : List Cond := .code yJ9_max_7cf53 cJ9_max_7cf53 2 (some .int) :: ([])
def wsJ9_max_f86c9 : List Cond := .code yJ9_max_f86c9 cJ9_max_f86c9 4 (some .long) :: ([])
def wsJ9_min_7cf53 : List Cond := .code yJ9_min_7cf53 cJ9_min_7cf53 2 (some .int) :: ([])
def wsJ9_min_f86c9 : List Cond := .code yJ9_min_f86c9 cJ9_min_f86c9 4 (some .long) :: ([])
def wsL_key_r1 : List Cond := [Cond.classLink RL 13 "java/lang/IllegalArgumentException", Cond.methodLink RL 7 yX10_key, Cond.instanceMethod yX10_key, Cond.selects RX10 yX10_key yX10_key, Cond.initialized RX10, Cond.code yX10_key cX10_key 4 none, Cond.constant RX10 35 (100000), Cond.constant RX10 40 (1000000), Cond.fieldLink RX10 10 "LeaseGates" "lender" "LLeaseGates$Root;", Cond.fieldLink RX10 41 "LeaseGates$Root" "buckets" "[LLeaseGates$Bucket;", Cond.methodLink RX10 32 yX10_requireKey, Cond.static yX10_requireKey, Cond.code yX10_requireKey cX10_requireKey 1 none, Cond.methodLink RX10 36 yX10_requireWithin, Cond.static yX10_requireWithin, Cond.code yX10_requireWithin cX10_requireWithin 3 none, Cond.classLink RX10 192 "java/lang/IllegalArgumentException", Cond.initialized "java/lang/IllegalArgumentException", Cond.methodLink RX10 45 yX1_reshape, Cond.instanceMethod yX1_reshape, Cond.selects RX1 yX1_reshape yX1_reshape, Cond.initialized RX1, Cond.code yX1_reshape cX1_reshape 3 none, Cond.fieldLink RX1 18 "LeaseGates$Bucket" "rate" "I"]
def wsL_key_r2 : List Cond := [Cond.fieldLink RX1 22 "LeaseGates$Bucket" "burst" "I", Cond.methodLink RX1 25 yX1_fill, Cond.instanceMethod yX1_fill, Cond.selects RX1 yX1_fill yX1_fill, Cond.code yX1_fill cX1_fill 5 none, Cond.constantLong RX1 29 (1000), Cond.fieldLink RX1 31 "LeaseGates$Bucket" "lent" "I", Cond.methodLink RX1 34 Lib.MathLoose.max_long.x, Cond.static Lib.MathLoose.max_long.x, Cond.initialized "java/lang/Math", Cond.code Lib.MathLoose.max_long.x Lib.MathLoose.max_long.code 4 (some .long), Cond.fieldLink RX1 40 "LeaseGates$Bucket" "level" "I", Cond.methodLink RX1 43 Lib.MathLoose.min_long.x, Cond.static Lib.MathLoose.min_long.x, Cond.code Lib.MathLoose.min_long.x Lib.MathLoose.min_long.code 4 (some .long)]
def wsL_key : List Cond := .codeWith yL_key cL_key 5 (some .int) [(0, 7, 10, 13)] :: ((wsL_key_r1 ++ wsL_key_r2) ++ wsX100 ++ wsX80 ++ wsX10 ++ (vx_atS RX10 196 "java/lang/IllegalArgumentException" ["java/lang/RuntimeException", "java/lang/Exception"]).filter goodWord)
def wsL_length : List Cond := .codeWith yL_length cL_length 3 (some .int) [(0, 5, 8, 13)] :: ([.classLink RL 13 "java/lang/IllegalArgumentException", .methodLink RL 15 yX10_length, .instanceMethod yX10_length, .selects RX10 yX10_length yX10_length, .initialized RX10, .code yX10_length cX10_length 2 none, .fieldLink RX10 10 "LeaseGates" "lender" "LLeaseGates$Root;", .fieldLink RX10 51 "LeaseGates$Root" "loanLength" "I", .methodLink RX10 36 yX10_requireWithin, .static yX10_requireWithin, .code yX10_requireWithin cX10_requireWithin 3 none, .classLink RX10 192 "java/lang/IllegalArgumentException", .initialized "java/lang/IllegalArgumentException"] ++ wsX100 ++ wsX80 ++ (vx_atS RX10 196 "java/lang/IllegalArgumentException" ["java/lang/RuntimeException", "java/lang/Exception"]).filter goodWord)
def wsL_weight_r1 : List Cond := [Cond.classLink RL 13 "java/lang/IllegalArgumentException", Cond.methodLink RL 19 yX10_weight, Cond.instanceMethod yX10_weight, Cond.selects RX10 yX10_weight yX10_weight, Cond.initialized RX10, Cond.code yX10_weight cX10_weight 4 none, Cond.fieldLink RX10 10 "LeaseGates" "lender" "LLeaseGates$Root;", Cond.fieldLink RX10 62 "LeaseGates$Account" "share" "I", Cond.methodLink RX10 55 yX10_requireGate, Cond.static yX10_requireGate, Cond.code yX10_requireGate cX10_requireGate 1 none, Cond.methodLink RX10 36 yX10_requireWithin, Cond.static yX10_requireWithin, Cond.code yX10_requireWithin cX10_requireWithin 3 none, Cond.classLink RX10 192 "java/lang/IllegalArgumentException", Cond.initialized "java/lang/IllegalArgumentException", Cond.methodLink RX10 32 yX10_requireKey, Cond.static yX10_requireKey, Cond.code yX10_requireKey cX10_requireKey 1 none, Cond.methodLink RX10 58 yX8_accountOf, Cond.instanceMethod yX8_accountOf, Cond.selects RX8 yX8_accountOf yX8_accountOf, Cond.initialized RX8, Cond.code yX8_accountOf cX8_accountOf 3 (some (.object "LeaseGates$Account"))]
def wsL_weight_r2 : List Cond := [Cond.fieldLink RX8 26 "LeaseGates$Root" "accounts" "[LLeaseGates$Account;"]
def wsL_weight : List Cond := .codeWith yL_weight cL_weight 5 (some .int) [(0, 7, 10, 13)] :: ((wsL_weight_r1 ++ wsL_weight_r2) ++ wsX100 ++ wsX00 ++ wsX80 ++ (vx_atS RX10 196 "java/lang/IllegalArgumentException" ["java/lang/RuntimeException", "java/lang/Exception"]).filter goodWord)
def wsL_speed : List Cond := .codeWith yL_speed cL_speed 4 (some .int) [(0, 6, 9, 13)] :: ([.classLink RL 13 "java/lang/IllegalArgumentException", .methodLink RL 22 yX10_speed, .instanceMethod yX10_speed, .selects RX10 yX10_speed yX10_speed, .initialized RX10, .code yX10_speed cX10_speed 3 none, .fieldLink RX10 71 "LeaseGates$Ticker" "pace" "I", .methodLink RX10 36 yX10_requireWithin, .static yX10_requireWithin, .code yX10_requireWithin cX10_requireWithin 3 none, .classLink RX10 192 "java/lang/IllegalArgumentException", .initialized "java/lang/IllegalArgumentException", .methodLink RX10 67 yX10_tickerOf, .instanceMethod yX10_tickerOf, .selects RX10 yX10_tickerOf yX10_tickerOf, .code yX10_tickerOf cX10_tickerOf 2 (some (.object "LeaseGates$Ticker")), .fieldLink RX10 10 "LeaseGates" "lender" "LLeaseGates$Root;", .fieldLink RX10 188 "LeaseGates$Root" "ticker" "LLeaseGates$Ticker;", .fieldLink RX10 25 "LeaseGates" "spenders" "[LLeaseGates$Gate;", .fieldLink RX10 119 "LeaseGates$Gate" "ticker" "LLeaseGates$Ticker;"] ++ wsX90 ++ wsX100 ++ wsX80 ++ wsX30 ++ (vx_atS RX10 196 "java/lang/IllegalArgumentException" ["java/lang/RuntimeException", "java/lang/Exception"]).filter goodWord)
def wsL_take_r1 : List Cond := [Cond.classLink RL 13 "java/lang/IllegalArgumentException", Cond.methodLink RL 26 yX10_take, Cond.instanceMethod yX10_take, Cond.selects RX10 yX10_take yX10_take, Cond.initialized RX10, Cond.code yX10_take cX10_take 5 (some .boolean), Cond.fieldLink RX10 25 "LeaseGates" "spenders" "[LLeaseGates$Gate;", Cond.fieldLink RX10 10 "LeaseGates" "lender" "LLeaseGates$Root;", Cond.fieldLink RX10 41 "LeaseGates$Root" "buckets" "[LLeaseGates$Bucket;", Cond.fieldLink RX10 80 "LeaseGates$Bucket" "spentAtGates" "I", Cond.methodLink RX10 55 yX10_requireGate, Cond.static yX10_requireGate, Cond.code yX10_requireGate cX10_requireGate 1 none, Cond.methodLink RX10 36 yX10_requireWithin, Cond.static yX10_requireWithin, Cond.code yX10_requireWithin cX10_requireWithin 3 none, Cond.classLink RX10 192 "java/lang/IllegalArgumentException", Cond.initialized "java/lang/IllegalArgumentException", Cond.methodLink RX10 32 yX10_requireKey, Cond.static yX10_requireKey, Cond.code yX10_requireKey cX10_requireKey 1 none, Cond.methodLink RX10 76 yX3_spend, Cond.instanceMethod yX3_spend, Cond.selects RX3 yX3_spend yX3_spend]
def wsL_take_r2 : List Cond := [Cond.initialized RX3, Cond.code yX3_spend cX3_spend 3 (some .boolean), Cond.fieldLink RX3 20 "LeaseGates$Gate" "desks" "[LLeaseGates$Desk;", Cond.fieldLink RX3 12 "LeaseGates$Gate" "ticker" "LLeaseGates$Ticker;", Cond.methodLink RX3 27 yX9_now, Cond.instanceMethod yX9_now, Cond.selects RX9 yX9_now yX9_now, Cond.initialized RX9, Cond.code yX9_now cX9_now 1 (some .int), Cond.fieldLink RX9 13 "LeaseGates$Ticker" "thousandths" "J", Cond.constantLong RX9 17 (1000), Cond.methodLink RX3 31 yX2_spend, Cond.instanceMethod yX2_spend, Cond.selects RX2 yX2_spend yX2_spend, Cond.initialized RX2, Cond.code yX2_spend cX2_spend 3 (some .boolean), Cond.fieldLink RX2 31 "LeaseGates$Desk" "use" "I", Cond.fieldLink RX2 44 "LeaseGates$Desk" "refusals" "I", Cond.methodLink RX2 64 yX2_liveTokens, Cond.instanceMethod yX2_liveTokens, Cond.selects RX2 yX2_liveTokens yX2_liveTokens, Cond.code yX2_liveTokens cX2_liveTokens 5 (some .int), Cond.fieldLink RX2 12 "LeaseGates$Desk" "holds" "Ljava/util/ArrayList;", Cond.classLink RX2 55 "LeaseGates$Hold"]
def wsL_take_r3 : List Cond := [Cond.fieldLink RX2 61 "LeaseGates$Hold" "tokens" "I", Cond.methodLink RX2 47 yJx4a65c_size_8abf5, Cond.instanceMethod yJx4a65c_size_8abf5, Cond.selects RJx4a65c yJx4a65c_size_8abf5 yJx4a65c_size_8abf5, Cond.initialized RJx4a65c, Cond.code yJx4a65c_size_8abf5 cJx4a65c_size_8abf5 1 (some .int), Cond.fieldLink RJx4a65c 48 "java/util/ArrayList" "size" "I", Cond.methodLink RX2 51 yJx4a65c_get_915e3, Cond.instanceMethod yJx4a65c_get_915e3, Cond.selects RJx4a65c yJx4a65c_get_915e3 yJx4a65c_get_915e3, Cond.code yJx4a65c_get_915e3 cJx4a65c_get_915e3 2 (some (.object "java/lang/Object")), Cond.methodLink RJx4a65c 118 yJ15_checkIndex_7cf53, Cond.static yJ15_checkIndex_7cf53, Cond.initialized RJ15, Cond.code yJ15_checkIndex_7cf53 cJ15_checkIndex_7cf53 2 (some .int), Cond.methodLink RJ15 105 yJ3_checkIndex_8e157, Cond.static yJ3_checkIndex_8e157, Cond.initialized RJ3, Cond.code yJ3_checkIndex_8e157 cJ3_checkIndex_8e157 3 (some .int), Cond.methodLink RJx4a65c 123 yJx4a65c_elementData_915e3, Cond.instanceMethod yJx4a65c_elementData_915e3, Cond.selects RJx4a65c yJx4a65c_elementData_915e3 yJx4a65c_elementData_915e3, Cond.code yJx4a65c_elementData_915e3 cJx4a65c_elementData_915e3 2 (some (.object "java/lang/Object")), Cond.fieldLink RJx4a65c 9 "java/util/ArrayList" "elementData" "[Ljava/lang/Object;"]
def wsL_take_r4 : List Cond := [Cond.methodLink RX2 57 yX4_isLive, Cond.instanceMethod yX4_isLive, Cond.selects RX4 yX4_isLive yX4_isLive, Cond.initialized RX4, Cond.code yX4_isLive cX4_isLive 2 (some .boolean), Cond.fieldLink RX4 16 "LeaseGates$Hold" "asked" "I", Cond.fieldLink RX4 22 "LeaseGates$Hold" "span" "I", Cond.methodLink RX2 68 yX2_takeOut, Cond.instanceMethod yX2_takeOut, Cond.selects RX2 yX2_takeOut yX2_takeOut, Cond.code yX2_takeOut cX2_takeOut 8 none, Cond.methodLink RX2 75 Lib.Math.min.name, Cond.static Lib.Math.min.name, Cond.initialized "java/lang/Math", Cond.code Lib.Math.min.name Lib.Math.min.code 2 (some .int), Cond.methodLink RX2 72 yX2_liveHoldThatEndsFirst, Cond.instanceMethod yX2_liveHoldThatEndsFirst, Cond.selects RX2 yX2_liveHoldThatEndsFirst yX2_liveHoldThatEndsFirst, Cond.code yX2_liveHoldThatEndsFirst cX2_liveHoldThatEndsFirst 5 (some .int), Cond.methodLink RX2 84 yX4_end, Cond.instanceMethod yX4_end, Cond.selects RX4 yX4_end yX4_end, Cond.code yX4_end cX4_end 1 (some .int), Cond.methodLink RX2 81 yJx4a65c_remove_915e3]
def wsL_take_r5 : List Cond := [Cond.instanceMethod yJx4a65c_remove_915e3, Cond.selects RJx4a65c yJx4a65c_remove_915e3 yJx4a65c_remove_915e3, Cond.code yJx4a65c_remove_915e3 cJx4a65c_remove_915e3 4 (some (.object "java/lang/Object")), Cond.methodLink RJx4a65c 144 yJx4a65c_fastRemove_b59b0, Cond.instanceMethod yJx4a65c_fastRemove_b59b0, Cond.selects RJx4a65c yJx4a65c_fastRemove_b59b0 yJx4a65c_fastRemove_b59b0, Cond.code yJx4a65c_fastRemove_b59b0 cJx4a65c_fastRemove_b59b0 4 none, Cond.fieldLink RJx4a65c 63 "java/util/ArrayList" "modCount" "I", Cond.sameField "java/util/ArrayList" "java/util/AbstractList" "modCount" "I", Cond.methodLink RJx4a65c 112 arraycopyName, Cond.native arraycopyName, Cond.static arraycopyName, Cond.initialized "java/lang/System"]
def wsL_take : List Cond := .codeWith yL_take cL_take 6 (some .int) [(0, 19, 22, 13)] :: ((wsL_take_r1 ++ (wsL_take_r2 ++ (wsL_take_r3 ++ (wsL_take_r4 ++ wsL_take_r5)))) ++ wsX100 ++ wsX80 ++ wsX10 ++ wsX30 ++ wsX90 ++ wsX20 ++ wsX40 ++ wsJx4a65c0 ++ (vx_atS RX10 196 "java/lang/IllegalArgumentException" ["java/lang/RuntimeException", "java/lang/Exception"]).filter goodWord)
def wsL_work_r1 : List Cond := [Cond.classLink RL 13 "java/lang/IllegalArgumentException", Cond.methodLink RL 30 yX10_work, Cond.instanceMethod yX10_work, Cond.selects RX10 yX10_work yX10_work, Cond.initialized RX10, Cond.code yX10_work cX10_work 3 (some .int), Cond.fieldLink RX10 19 "LeaseGates" "post" "LLeaseGates$Post;", Cond.fieldLink RX10 83 "LeaseGates$Post" "count" "I", Cond.fieldLink RX10 25 "LeaseGates" "spenders" "[LLeaseGates$Gate;", Cond.methodLink RX10 55 yX10_requireGate, Cond.static yX10_requireGate, Cond.code yX10_requireGate cX10_requireGate 1 none, Cond.methodLink RX10 36 yX10_requireWithin, Cond.static yX10_requireWithin, Cond.code yX10_requireWithin cX10_requireWithin 3 none, Cond.classLink RX10 192 "java/lang/IllegalArgumentException", Cond.initialized "java/lang/IllegalArgumentException", Cond.methodLink RX10 86 yX3_settle, Cond.instanceMethod yX3_settle, Cond.selects RX3 yX3_settle yX3_settle, Cond.initialized RX3, Cond.code yX3_settle cX3_settle 3 none, Cond.fieldLink RX3 20 "LeaseGates$Gate" "desks" "[LLeaseGates$Desk;", Cond.fieldLink RX3 35 "LeaseGates$Gate" "birth" "I"]
def wsL_work_r2 : List Cond := [Cond.fieldLink RX3 12 "LeaseGates$Gate" "ticker" "LLeaseGates$Ticker;", Cond.methodLink RX3 27 yX9_now, Cond.instanceMethod yX9_now, Cond.selects RX9 yX9_now yX9_now, Cond.initialized RX9, Cond.code yX9_now cX9_now 1 (some .int), Cond.fieldLink RX9 13 "LeaseGates$Ticker" "thousandths" "J", Cond.constantLong RX9 17 (1000), Cond.methodLink RX3 39 yX2_settle, Cond.instanceMethod yX2_settle, Cond.selects RX2 yX2_settle yX2_settle, Cond.initialized RX2, Cond.code yX2_settle cX2_settle 5 none, Cond.fieldLink RX2 31 "LeaseGates$Desk" "use" "I", Cond.fieldLink RX2 28 "LeaseGates$Desk" "demand" "I", Cond.fieldLink RX2 34 "LeaseGates$Desk" "asks" "I", Cond.fieldLink RX2 37 "LeaseGates$Desk" "open" "Z", Cond.fieldLink RX2 41 "LeaseGates$Desk" "openSince" "I", Cond.classLink RX2 94 RX6, Cond.instantiable RX6 8, Cond.initialized RX6, Cond.fieldLink RX2 18 "LeaseGates$Desk" "gate" "I", Cond.fieldLink RX2 22 "LeaseGates$Desk" "key" "I", Cond.methodLink RX2 87 yX2_giveBack]
def wsL_work_r3 : List Cond := [Cond.instanceMethod yX2_giveBack, Cond.selects RX2 yX2_giveBack yX2_giveBack, Cond.code yX2_giveBack cX2_giveBack 8 none, Cond.fieldLink RX2 12 "LeaseGates$Desk" "holds" "Ljava/util/ArrayList;", Cond.classLink RX2 55 "LeaseGates$Hold", Cond.methodLink RX2 47 yJx4a65c_size_8abf5, Cond.instanceMethod yJx4a65c_size_8abf5, Cond.selects RJx4a65c yJx4a65c_size_8abf5 yJx4a65c_size_8abf5, Cond.initialized RJx4a65c, Cond.code yJx4a65c_size_8abf5 cJx4a65c_size_8abf5 1 (some .int), Cond.fieldLink RJx4a65c 48 "java/util/ArrayList" "size" "I", Cond.methodLink RX2 51 yJx4a65c_get_915e3, Cond.instanceMethod yJx4a65c_get_915e3, Cond.selects RJx4a65c yJx4a65c_get_915e3 yJx4a65c_get_915e3, Cond.code yJx4a65c_get_915e3 cJx4a65c_get_915e3 2 (some (.object "java/lang/Object")), Cond.methodLink RJx4a65c 118 yJ15_checkIndex_7cf53, Cond.static yJ15_checkIndex_7cf53, Cond.initialized RJ15, Cond.code yJ15_checkIndex_7cf53 cJ15_checkIndex_7cf53 2 (some .int), Cond.methodLink RJ15 105 yJ3_checkIndex_8e157, Cond.static yJ3_checkIndex_8e157, Cond.initialized RJ3, Cond.code yJ3_checkIndex_8e157 cJ3_checkIndex_8e157 3 (some .int), Cond.methodLink RJx4a65c 123 yJx4a65c_elementData_915e3]
def wsL_work_r4 : List Cond := [Cond.instanceMethod yJx4a65c_elementData_915e3, Cond.selects RJx4a65c yJx4a65c_elementData_915e3 yJx4a65c_elementData_915e3, Cond.code yJx4a65c_elementData_915e3 cJx4a65c_elementData_915e3 2 (some (.object "java/lang/Object")), Cond.fieldLink RJx4a65c 9 "java/util/ArrayList" "elementData" "[Ljava/lang/Object;", Cond.methodLink RX2 57 yX4_isLive, Cond.instanceMethod yX4_isLive, Cond.selects RX4 yX4_isLive yX4_isLive, Cond.initialized RX4, Cond.code yX4_isLive cX4_isLive 2 (some .boolean), Cond.fieldLink RX4 16 "LeaseGates$Hold" "asked" "I", Cond.fieldLink RX4 22 "LeaseGates$Hold" "span" "I", Cond.methodLink RX2 105 yX4_isHalfOver, Cond.instanceMethod yX4_isHalfOver, Cond.selects RX4 yX4_isHalfOver yX4_isHalfOver, Cond.code yX4_isHalfOver cX4_isHalfOver 2 (some .boolean), Cond.methodLink RX2 108 yJx4a65c_set_bcc79, Cond.instanceMethod yJx4a65c_set_bcc79, Cond.selects RJx4a65c yJx4a65c_set_bcc79 yJx4a65c_set_bcc79, Cond.code yJx4a65c_set_bcc79 cJx4a65c_set_bcc79 4 (some (.object "java/lang/Object")), Cond.methodLink RX2 112 yX6_init__, Cond.instanceMethod yX6_init__, Cond.code yX6_init__ cX6_init__ 5 none, Cond.methodLink RX6 3 objectInit, Cond.instanceMethod objectInit]
def wsL_work_r5 : List Cond := [Cond.code objectInit ⟨#[0xb1]⟩ 1 none, Cond.fieldLink RX6 9 "LeaseGates$Message" "kind" "I", Cond.fieldLink RX6 15 "LeaseGates$Message" "gate" "I", Cond.fieldLink RX6 18 "LeaseGates$Message" "key" "I", Cond.fieldLink RX6 21 "LeaseGates$Message" "birth" "I", Cond.fieldLink RX6 36 "LeaseGates$Hold" "tokens" "I", Cond.fieldLink RX6 24 "LeaseGates$Message" "tokens" "I", Cond.fieldLink RX6 27 "LeaseGates$Message" "count" "I", Cond.fieldLink RX6 39 "LeaseGates$Hold" "loan" "I", Cond.fieldLink RX6 30 "LeaseGates$Message" "loan" "I", Cond.fieldLink RX6 33 "LeaseGates$Message" "loanLength" "I", Cond.methodLink RX2 99 yX7_send, Cond.instanceMethod yX7_send, Cond.selects RX7 yX7_send yX7_send, Cond.initialized RX7, Cond.code yX7_send cX7_send 2 none, Cond.fieldLink RX7 17 "LeaseGates$Post" "count" "I", Cond.fieldLink RX7 11 "LeaseGates$Post" "slots" "[LLeaseGates$Message;", Cond.methodLink RX2 81 yJx4a65c_remove_915e3, Cond.instanceMethod yJx4a65c_remove_915e3, Cond.selects RJx4a65c yJx4a65c_remove_915e3 yJx4a65c_remove_915e3, Cond.code yJx4a65c_remove_915e3 cJx4a65c_remove_915e3 4 (some (.object "java/lang/Object")), Cond.methodLink RJx4a65c 144 yJx4a65c_fastRemove_b59b0, Cond.instanceMethod yJx4a65c_fastRemove_b59b0]
def wsL_work_r6 : List Cond := [Cond.selects RJx4a65c yJx4a65c_fastRemove_b59b0 yJx4a65c_fastRemove_b59b0, Cond.code yJx4a65c_fastRemove_b59b0 cJx4a65c_fastRemove_b59b0 4 none, Cond.fieldLink RJx4a65c 63 "java/util/ArrayList" "modCount" "I", Cond.sameField "java/util/ArrayList" "java/util/AbstractList" "modCount" "I", Cond.methodLink RJx4a65c 112 arraycopyName, Cond.native arraycopyName, Cond.static arraycopyName, Cond.initialized "java/lang/System", Cond.methodLink RX2 64 yX2_liveTokens, Cond.instanceMethod yX2_liveTokens, Cond.selects RX2 yX2_liveTokens yX2_liveTokens, Cond.code yX2_liveTokens cX2_liveTokens 5 (some .int), Cond.fieldLink RX2 61 "LeaseGates$Hold" "tokens" "I", Cond.methodLink RX2 91 yX2_mayAsk, Cond.instanceMethod yX2_mayAsk, Cond.selects RX2 yX2_mayAsk yX2_mayAsk, Cond.code yX2_mayAsk cX2_mayAsk 2 (some .boolean), Cond.methodLink RX2 96 yX6_init, Cond.instanceMethod yX6_init, Cond.code yX6_init cX6_init 6 none]
def wsL_work : List Cond := .codeWith yL_work cL_work 4 (some .int) [(0, 9, 12, 13)] :: ((wsL_work_r1 ++ (wsL_work_r2 ++ (wsL_work_r3 ++ (wsL_work_r4 ++ (wsL_work_r5 ++ wsL_work_r6))))) ++ wsX100 ++ wsX70 ++ wsX30 ++ wsX90 ++ wsX20 ++ wsX60 ++ wsJx4a65c0 ++ wsX40 ++ (vx_atS RX10 196 "java/lang/IllegalArgumentException" ["java/lang/RuntimeException", "java/lang/Exception"]).filter goodWord)
def wsL_carry_r1 : List Cond := [Cond.classLink RL 13 "java/lang/IllegalArgumentException", Cond.methodLink RL 34 yX10_carry, Cond.instanceMethod yX10_carry, Cond.selects RX10 yX10_carry yX10_carry, Cond.initialized RX10, Cond.code yX10_carry cX10_carry 3 (some .boolean), Cond.fieldLink RX10 94 "LeaseGates$Message" "kind" "I", Cond.fieldLink RX10 10 "LeaseGates" "lender" "LLeaseGates$Root;", Cond.fieldLink RX10 19 "LeaseGates" "post" "LLeaseGates$Post;", Cond.fieldLink RX10 25 "LeaseGates" "spenders" "[LLeaseGates$Gate;", Cond.fieldLink RX10 107 "LeaseGates$Message" "gate" "I", Cond.methodLink RX10 90 yX10_requireMessage, Cond.instanceMethod yX10_requireMessage, Cond.selects RX10 yX10_requireMessage yX10_requireMessage, Cond.code yX10_requireMessage cX10_requireMessage 3 (some (.object "LeaseGates$Message")), Cond.classLink RX10 192 "java/lang/IllegalArgumentException", Cond.initialized "java/lang/IllegalArgumentException", Cond.methodLink RX10 189 yX7_find, Cond.instanceMethod yX7_find, Cond.selects RX7 yX7_find yX7_find, Cond.initialized RX7, Cond.code yX7_find cX7_find 2 (some (.object "LeaseGates$Message")), Cond.fieldLink RX7 17 "LeaseGates$Post" "count" "I", Cond.fieldLink RX7 11 "LeaseGates$Post" "slots" "[LLeaseGates$Message;"]
def wsL_carry_r2 : List Cond := [Cond.methodLink RX10 99 yX8_hearAsk, Cond.instanceMethod yX8_hearAsk, Cond.selects RX8 yX8_hearAsk yX8_hearAsk, Cond.initialized RX8, Cond.code yX8_hearAsk cX8_hearAsk 4 (some .boolean), Cond.fieldLink RX8 52 "LeaseGates$Message" "birth" "I", Cond.fieldLink RX8 30 "LeaseGates$Root" "births" "[I", Cond.fieldLink RX8 57 "LeaseGates$Message" "gate" "I", Cond.fieldLink RX8 63 "LeaseGates$Message" "key" "I", Cond.fieldLink RX8 70 "LeaseGates$Account" "answer" "LLeaseGates$Message;", Cond.fieldLink RX8 74 "LeaseGates$Message" "count" "I", Cond.methodLink RX8 60 yX8_forgetAnswers, Cond.instanceMethod yX8_forgetAnswers, Cond.selects RX8 yX8_forgetAnswers yX8_forgetAnswers, Cond.code yX8_forgetAnswers cX8_forgetAnswers 3 none, Cond.methodLink RX8 66 yX8_accountOf, Cond.instanceMethod yX8_accountOf, Cond.selects RX8 yX8_accountOf yX8_accountOf, Cond.code yX8_accountOf cX8_accountOf 3 (some (.object "LeaseGates$Account")), Cond.fieldLink RX8 26 "LeaseGates$Root" "accounts" "[LLeaseGates$Account;", Cond.methodLink RX8 77 yX8_answerTo, Cond.instanceMethod yX8_answerTo, Cond.selects RX8 yX8_answerTo yX8_answerTo, Cond.code yX8_answerTo cX8_answerTo 7 (some (.object "LeaseGates$Message"))]
def wsL_carry_r3 : List Cond := [Cond.fieldLink RX8 87 "LeaseGates$Account" "asked" "Z", Cond.fieldLink RX8 12 "LeaseGates$Root" "ticker" "LLeaseGates$Ticker;", Cond.fieldLink RX8 91 "LeaseGates$Account" "askedAt" "I", Cond.fieldLink RX8 20 "LeaseGates$Root" "buckets" "[LLeaseGates$Bucket;", Cond.fieldLink RX8 97 "LeaseGates$Message" "tokens" "I", Cond.fieldLink RX8 100 "LeaseGates$Account" "share" "I", Cond.classLink RX8 53 RX6, Cond.instantiable RX6 8, Cond.initialized RX6, Cond.fieldLink RX8 34 "LeaseGates$Root" "loanLength" "I", Cond.fieldLink RX8 110 "LeaseGates$Root" "loansSoFar" "I", Cond.methodLink RX8 40 yX9_now, Cond.instanceMethod yX9_now, Cond.selects RX9 yX9_now yX9_now, Cond.initialized RX9, Cond.code yX9_now cX9_now 1 (some .int), Cond.fieldLink RX9 13 "LeaseGates$Ticker" "thousandths" "J", Cond.constantLong RX9 17 (1000), Cond.methodLink RX8 94 yX1_free, Cond.instanceMethod yX1_free, Cond.selects RX1 yX1_free yX1_free, Cond.initialized RX1, Cond.code yX1_free cX1_free 1 (some .int), Cond.fieldLink RX1 40 "LeaseGates$Bucket" "level" "I"]
def wsL_carry_r4 : List Cond := [Cond.methodLink RX8 103 yX8_shareOf, Cond.instanceMethod yX8_shareOf, Cond.selects RX8 yX8_shareOf yX8_shareOf, Cond.code yX8_shareOf cX8_shareOf 7 (some .int), Cond.methodLink RX8 117 yX0_askedOfLate, Cond.instanceMethod yX0_askedOfLate, Cond.selects RX0 yX0_askedOfLate yX0_askedOfLate, Cond.initialized RX0, Cond.code yX0_askedOfLate cX0_askedOfLate 2 (some .boolean), Cond.fieldLink RX0 13 "LeaseGates$Account" "asked" "Z", Cond.fieldLink RX0 17 "LeaseGates$Account" "askedAt" "I", Cond.methodLink RX8 107 yX6_init_, Cond.instanceMethod yX6_init_, Cond.code yX6_init_ cX6_init_ 5 none, Cond.methodLink RX6 3 objectInit, Cond.instanceMethod objectInit, Cond.code objectInit ⟨#[0xb1]⟩ 1 none, Cond.fieldLink RX6 9 "LeaseGates$Message" "kind" "I", Cond.fieldLink RX6 15 "LeaseGates$Message" "gate" "I", Cond.fieldLink RX6 18 "LeaseGates$Message" "key" "I", Cond.fieldLink RX6 21 "LeaseGates$Message" "birth" "I", Cond.fieldLink RX6 24 "LeaseGates$Message" "tokens" "I", Cond.fieldLink RX6 27 "LeaseGates$Message" "count" "I", Cond.fieldLink RX6 30 "LeaseGates$Message" "loan" "I"]
def wsL_carry_r5 : List Cond := [Cond.fieldLink RX6 33 "LeaseGates$Message" "loanLength" "I", Cond.methodLink RX8 113 yX1_lend, Cond.instanceMethod yX1_lend, Cond.selects RX1 yX1_lend yX1_lend, Cond.code yX1_lend cX1_lend 4 none, Cond.fieldLink RX1 31 "LeaseGates$Bucket" "lent" "I", Cond.fieldLink RX1 12 "LeaseGates$Bucket" "loans" "Ljava/util/ArrayList;", Cond.classLink RX1 57 RX5, Cond.instantiable RX5 3, Cond.initialized RX5, Cond.methodLink RX1 72 yX5_init, Cond.instanceMethod yX5_init, Cond.code yX5_init cX5_init 4 none, Cond.methodLink RX5 1 objectInit, Cond.fieldLink RX5 7 "LeaseGates$Loan" "number" "I", Cond.fieldLink RX5 13 "LeaseGates$Loan" "tokens" "I", Cond.fieldLink RX5 16 "LeaseGates$Loan" "end" "I", Cond.methodLink RX1 75 yJx4a65c_add_9ea2d, Cond.instanceMethod yJx4a65c_add_9ea2d, Cond.selects RJx4a65c yJx4a65c_add_9ea2d yJx4a65c_add_9ea2d, Cond.initialized RJx4a65c, Cond.code yJx4a65c_add_9ea2d cJx4a65c_add_9ea2d 2 (some .boolean), Cond.fieldLink RJx4a65c 63 "java/util/ArrayList" "modCount" "I", Cond.sameField "java/util/ArrayList" "java/util/AbstractList" "modCount" "I"]
def wsL_carry_r6 : List Cond := [Cond.fieldLink RJx4a65c 9 "java/util/ArrayList" "elementData" "[Ljava/lang/Object;", Cond.fieldLink RJx4a65c 48 "java/util/ArrayList" "size" "I", Cond.methodLink RJx4a65c 131 yJx4a65c_add_72be8, Cond.instanceMethod yJx4a65c_add_72be8, Cond.selects RJx4a65c yJx4a65c_add_72be8 yJx4a65c_add_72be8, Cond.code yJx4a65c_add_72be8 cJx4a65c_add_72be8 4 none, Cond.methodLink RJx4a65c 129 yJx4a65c_grow_d5877, Cond.instanceMethod yJx4a65c_grow_d5877, Cond.selects RJx4a65c yJx4a65c_grow_d5877 yJx4a65c_grow_d5877, Cond.code yJx4a65c_grow_d5877 cJx4a65c_grow_d5877 1 (some (.array (.object "java/lang/Object"))), Cond.methodLink RJx4a65c 69 yJx4a65c_grow_92f84, Cond.instanceMethod yJx4a65c_grow_92f84, Cond.selects RJx4a65c yJx4a65c_grow_92f84 yJx4a65c_grow_92f84, Cond.code yJx4a65c_grow_92f84 cJx4a65c_grow_92f84 4 (some (.array (.object "java/lang/Object"))), Cond.fieldLink RJx4a65c 39 "java/util/ArrayList" "DEFAULTCAPACITY_EMPTY_ELEMENTDATA" "[Ljava/lang/Object;", Cond.methodLink RJx4a65c 79 Lib.Math.max.name, Cond.static Lib.Math.max.name, Cond.initialized "java/lang/Math", Cond.code Lib.Math.max.name Lib.Math.max.code 2 (some .int), Cond.classLink RJx4a65c 7 "java/lang/Object", Cond.methodLink RJx4a65c 73 yJ8_newLength_cabcc, Cond.static yJ8_newLength_cabcc, Cond.initialized RJ8, Cond.code yJ8_newLength_cabcc cJ8_newLength_cabcc 4 (some .int)]
def wsL_carry_r7 : List Cond := [Cond.methodLink RJ8 194 Lib.Math.max.name, Cond.constant RJ8 200 (2147483639), Cond.methodLink RJ8 201 yJ8_hugeLength_7cf53, Cond.static yJ8_hugeLength_7cf53, Cond.code yJ8_hugeLength_7cf53 cJ8_hugeLength_7cf53 3 (some .int), Cond.methodLink RJx4a65c 66 yJ7_copyOf_1904c, Cond.static yJ7_copyOf_1904c, Cond.initialized RJ7, Cond.code yJ7_copyOf_1904c cJ7_copyOf_1904c 2 (some (.array (.object "java/lang/Object"))), Cond.methodLink RJ7 86 ⟨"java/lang/Object", "getClass", "()Ljava/lang/Class;"⟩, Cond.selects "[Ljava/lang/Object;" ⟨"java/lang/Object", "getClass", "()Ljava/lang/Class;"⟩ ⟨"java/lang/Object", "getClass", "()Ljava/lang/Class;"⟩, Cond.instanceMethod ⟨"java/lang/Object", "getClass", "()Ljava/lang/Class;"⟩, Cond.native ⟨"java/lang/Object", "getClass", "()Ljava/lang/Class;"⟩, Cond.methodLink RJ7 300 yJ7_copyOf_6403c, Cond.static yJ7_copyOf_6403c, Cond.code yJ7_copyOf_6403c cJ7_copyOf_6403c 4 (some (.array (.object "java/lang/Object"))), Cond.classLink RJ7 110 "[Ljava/lang/Object;", Cond.classLink RJ7 2 "java/lang/Object", Cond.methodLink RJ7 304 Lib.Math.min.name, Cond.static Lib.Math.min.name, Cond.code Lib.Math.min.name Lib.Math.min.code 2 (some .int), Cond.methodLink RJ7 150 arraycopyName, Cond.native arraycopyName, Cond.static arraycopyName]
def wsL_carry_r8 : List Cond := [Cond.initialized "java/lang/System", Cond.methodLink RX8 81 yX7_send, Cond.instanceMethod yX7_send, Cond.selects RX7 yX7_send yX7_send, Cond.code yX7_send cX7_send 2 none, Cond.methodLink RX10 103 yX8_hearReturn, Cond.instanceMethod yX8_hearReturn, Cond.selects RX8 yX8_hearReturn yX8_hearReturn, Cond.code yX8_hearReturn cX8_hearReturn 2 (some .boolean), Cond.fieldLink RX8 121 "LeaseGates$Message" "loan" "I", Cond.methodLink RX8 124 yX1_bringBack, Cond.instanceMethod yX1_bringBack, Cond.selects RX1 yX1_bringBack yX1_bringBack, Cond.code yX1_bringBack cX1_bringBack 4 (some .boolean), Cond.classLink RX1 57 "LeaseGates$Loan", Cond.fieldLink RX1 79 "LeaseGates$Loan" "number" "I", Cond.constantLong RX1 29 (1000), Cond.methodLink RX1 46 yJx4a65c_size_8abf5, Cond.instanceMethod yJx4a65c_size_8abf5, Cond.selects RJx4a65c yJx4a65c_size_8abf5 yJx4a65c_size_8abf5, Cond.code yJx4a65c_size_8abf5 cJx4a65c_size_8abf5 1 (some .int), Cond.methodLink RX1 53 yJx4a65c_get_915e3, Cond.instanceMethod yJx4a65c_get_915e3, Cond.selects RJx4a65c yJx4a65c_get_915e3 yJx4a65c_get_915e3]
def wsL_carry_r9 : List Cond := [Cond.code yJx4a65c_get_915e3 cJx4a65c_get_915e3 2 (some (.object "java/lang/Object")), Cond.methodLink RJx4a65c 118 yJ15_checkIndex_7cf53, Cond.static yJ15_checkIndex_7cf53, Cond.initialized RJ15, Cond.code yJ15_checkIndex_7cf53 cJ15_checkIndex_7cf53 2 (some .int), Cond.methodLink RJ15 105 yJ3_checkIndex_8e157, Cond.static yJ3_checkIndex_8e157, Cond.initialized RJ3, Cond.code yJ3_checkIndex_8e157 cJ3_checkIndex_8e157 3 (some .int), Cond.methodLink RJx4a65c 123 yJx4a65c_elementData_915e3, Cond.instanceMethod yJx4a65c_elementData_915e3, Cond.selects RJx4a65c yJx4a65c_elementData_915e3 yJx4a65c_elementData_915e3, Cond.code yJx4a65c_elementData_915e3 cJx4a65c_elementData_915e3 2 (some (.object "java/lang/Object")), Cond.methodLink RX1 62 yX1_close, Cond.instanceMethod yX1_close, Cond.selects RX1 yX1_close yX1_close, Cond.code yX1_close cX1_close 2 none, Cond.fieldLink RX1 66 "LeaseGates$Loan" "tokens" "I", Cond.methodLink RX1 69 yJx4a65c_remove_915e3, Cond.instanceMethod yJx4a65c_remove_915e3, Cond.selects RJx4a65c yJx4a65c_remove_915e3 yJx4a65c_remove_915e3, Cond.code yJx4a65c_remove_915e3 cJx4a65c_remove_915e3 4 (some (.object "java/lang/Object")), Cond.methodLink RJx4a65c 144 yJx4a65c_fastRemove_b59b0, Cond.instanceMethod yJx4a65c_fastRemove_b59b0]
def wsL_carry_r10 : List Cond := [Cond.selects RJx4a65c yJx4a65c_fastRemove_b59b0 yJx4a65c_fastRemove_b59b0, Cond.code yJx4a65c_fastRemove_b59b0 cJx4a65c_fastRemove_b59b0 4 none, Cond.methodLink RJx4a65c 112 arraycopyName, Cond.methodLink RX1 25 yX1_fill, Cond.instanceMethod yX1_fill, Cond.selects RX1 yX1_fill yX1_fill, Cond.code yX1_fill cX1_fill 5 none, Cond.fieldLink RX1 22 "LeaseGates$Bucket" "burst" "I", Cond.methodLink RX1 34 Lib.MathLoose.max_long.x, Cond.static Lib.MathLoose.max_long.x, Cond.code Lib.MathLoose.max_long.x Lib.MathLoose.max_long.code 4 (some .long), Cond.methodLink RX1 43 Lib.MathLoose.min_long.x, Cond.static Lib.MathLoose.min_long.x, Cond.code Lib.MathLoose.min_long.x Lib.MathLoose.min_long.code 4 (some .long), Cond.methodLink RX10 110 yX3_hearGrant, Cond.instanceMethod yX3_hearGrant, Cond.selects RX3 yX3_hearGrant yX3_hearGrant, Cond.initialized RX3, Cond.code yX3_hearGrant cX3_hearGrant 2 (some .boolean), Cond.fieldLink RX3 43 "LeaseGates$Message" "birth" "I", Cond.fieldLink RX3 35 "LeaseGates$Gate" "birth" "I", Cond.fieldLink RX3 20 "LeaseGates$Gate" "desks" "[LLeaseGates$Desk;", Cond.fieldLink RX3 46 "LeaseGates$Message" "key" "I", Cond.methodLink RX3 49 yX2_accept]
def wsL_carry_r11 : List Cond := [Cond.instanceMethod yX2_accept, Cond.selects RX2 yX2_accept yX2_accept, Cond.initialized RX2, Cond.code yX2_accept cX2_accept 2 (some .boolean), Cond.fieldLink RX2 37 "LeaseGates$Desk" "open" "Z", Cond.fieldLink RX2 115 "LeaseGates$Message" "count" "I", Cond.fieldLink RX2 34 "LeaseGates$Desk" "asks" "I", Cond.fieldLink RX2 118 "LeaseGates$Message" "tokens" "I", Cond.fieldLink RX2 12 "LeaseGates$Desk" "holds" "Ljava/util/ArrayList;", Cond.classLink RX2 55 RX4, Cond.instantiable RX4 4, Cond.initialized RX4, Cond.fieldLink RX2 41 "LeaseGates$Desk" "openSince" "I", Cond.methodLink RX2 119 yX4_init, Cond.instanceMethod yX4_init, Cond.code yX4_init cX4_init 3 none, Cond.methodLink RX4 1 objectInit, Cond.fieldLink RX4 7 "LeaseGates$Message" "loan" "I", Cond.fieldLink RX4 13 "LeaseGates$Hold" "loan" "I", Cond.fieldLink RX4 16 "LeaseGates$Hold" "asked" "I", Cond.fieldLink RX4 19 "LeaseGates$Message" "loanLength" "I", Cond.fieldLink RX4 22 "LeaseGates$Hold" "span" "I", Cond.fieldLink RX4 25 "LeaseGates$Message" "tokens" "I", Cond.fieldLink RX4 28 "LeaseGates$Hold" "tokens" "I"]
def wsL_carry_r12 : List Cond := [Cond.methodLink RX2 122 yJx4a65c_add_9ea2d]
def wsL_carry : List Cond := .codeWith yL_carry cL_carry 4 (some .int) [(0, 16, 19, 13)] :: ((wsL_carry_r1 ++ (wsL_carry_r2 ++ (wsL_carry_r3 ++ (wsL_carry_r4 ++ (wsL_carry_r5 ++ (wsL_carry_r6 ++ (wsL_carry_r7 ++ (wsL_carry_r8 ++ (wsL_carry_r9 ++ (wsL_carry_r10 ++ (wsL_carry_r11 ++ wsL_carry_r12))))))))))) ++ wsX60 ++ wsX100 ++ wsX70 ++ wsX80 ++ wsX00 ++ wsX90 ++ wsX10 ++ wsX50 ++ wsJx4a65c0 ++ wsX30 ++ wsX20 ++ wsX40 ++ (vx_atS RX10 196 "java/lang/IllegalArgumentException" ["java/lang/RuntimeException", "java/lang/Exception"]).filter goodWord)
def wsL_drop : List Cond := .codeWith yL_drop cL_drop 3 (some .int) [(0, 5, 8, 13)] :: ([.classLink RL 13 "java/lang/IllegalArgumentException", .methodLink RL 38 yX10_drop, .instanceMethod yX10_drop, .selects RX10 yX10_drop yX10_drop, .initialized RX10, .code yX10_drop cX10_drop 2 none, .fieldLink RX10 19 "LeaseGates" "post" "LLeaseGates$Post;", .methodLink RX10 90 yX10_requireMessage, .instanceMethod yX10_requireMessage, .selects RX10 yX10_requireMessage yX10_requireMessage, .code yX10_requireMessage cX10_requireMessage 3 (some (.object "LeaseGates$Message")), .classLink RX10 192 "java/lang/IllegalArgumentException", .initialized "java/lang/IllegalArgumentException", .methodLink RX10 189 yX7_find, .instanceMethod yX7_find, .selects RX7 yX7_find yX7_find, .initialized RX7, .code yX7_find cX7_find 2 (some (.object "LeaseGates$Message")), .fieldLink RX7 17 "LeaseGates$Post" "count" "I", .fieldLink RX7 11 "LeaseGates$Post" "slots" "[LLeaseGates$Message;", .methodLink RX10 113 yX7_discard, .instanceMethod yX7_discard, .selects RX7 yX7_discard yX7_discard, .code yX7_discard cX7_discard 2 none] ++ wsX100 ++ wsX70 ++ (vx_atS RX10 196 "java/lang/IllegalArgumentException" ["java/lang/RuntimeException", "java/lang/Exception"]).filter goodWord)
def wsL_tick_r1 : List Cond := [Cond.classLink RL 13 "java/lang/IllegalArgumentException", Cond.methodLink RL 41 yX10_tick, Cond.instanceMethod yX10_tick, Cond.selects RX10 yX10_tick yX10_tick, Cond.initialized RX10, Cond.code yX10_tick cX10_tick 3 none, Cond.fieldLink RX10 10 "LeaseGates" "lender" "LLeaseGates$Root;", Cond.fieldLink RX10 25 "LeaseGates" "spenders" "[LLeaseGates$Gate;", Cond.fieldLink RX10 119 "LeaseGates$Gate" "ticker" "LLeaseGates$Ticker;", Cond.methodLink RX10 36 yX10_requireWithin, Cond.static yX10_requireWithin, Cond.code yX10_requireWithin cX10_requireWithin 3 none, Cond.classLink RX10 192 "java/lang/IllegalArgumentException", Cond.initialized "java/lang/IllegalArgumentException", Cond.methodLink RX10 116 yX8_advance, Cond.instanceMethod yX8_advance, Cond.selects RX8 yX8_advance yX8_advance, Cond.initialized RX8, Cond.code yX8_advance cX8_advance 4 none, Cond.fieldLink RX8 12 "LeaseGates$Root" "ticker" "LLeaseGates$Ticker;", Cond.fieldLink RX8 20 "LeaseGates$Root" "buckets" "[LLeaseGates$Bucket;", Cond.methodLink RX8 40 yX9_now, Cond.instanceMethod yX9_now, Cond.selects RX9 yX9_now yX9_now]
def wsL_tick_r2 : List Cond := [Cond.initialized RX9, Cond.code yX9_now cX9_now 1 (some .int), Cond.fieldLink RX9 13 "LeaseGates$Ticker" "thousandths" "J", Cond.constantLong RX9 17 (1000), Cond.methodLink RX8 44 yX9_advance, Cond.instanceMethod yX9_advance, Cond.selects RX9 yX9_advance yX9_advance, Cond.code yX9_advance cX9_advance 2 none, Cond.fieldLink RX9 7 "LeaseGates$Ticker" "pace" "I", Cond.methodLink RX8 48 yX1_pass, Cond.instanceMethod yX1_pass, Cond.selects RX1 yX1_pass yX1_pass, Cond.initialized RX1, Cond.code yX1_pass cX1_pass 7 none, Cond.fieldLink RX1 12 "LeaseGates$Bucket" "loans" "Ljava/util/ArrayList;", Cond.classLink RX1 57 "LeaseGates$Loan", Cond.fieldLink RX1 59 "LeaseGates$Loan" "end" "I", Cond.fieldLink RX1 18 "LeaseGates$Bucket" "rate" "I", Cond.methodLink RX1 46 yJx4a65c_size_8abf5, Cond.instanceMethod yJx4a65c_size_8abf5, Cond.selects RJx4a65c yJx4a65c_size_8abf5 yJx4a65c_size_8abf5, Cond.initialized RJx4a65c, Cond.code yJx4a65c_size_8abf5 cJx4a65c_size_8abf5 1 (some .int), Cond.fieldLink RJx4a65c 48 "java/util/ArrayList" "size" "I"]
def wsL_tick_r3 : List Cond := [Cond.methodLink RX1 50 yX1_loanThatEndsFirst, Cond.instanceMethod yX1_loanThatEndsFirst, Cond.selects RX1 yX1_loanThatEndsFirst yX1_loanThatEndsFirst, Cond.code yX1_loanThatEndsFirst cX1_loanThatEndsFirst 3 (some .int), Cond.methodLink RX1 53 yJx4a65c_get_915e3, Cond.instanceMethod yJx4a65c_get_915e3, Cond.selects RJx4a65c yJx4a65c_get_915e3 yJx4a65c_get_915e3, Cond.code yJx4a65c_get_915e3 cJx4a65c_get_915e3 2 (some (.object "java/lang/Object")), Cond.methodLink RJx4a65c 118 yJ15_checkIndex_7cf53, Cond.static yJ15_checkIndex_7cf53, Cond.initialized RJ15, Cond.code yJ15_checkIndex_7cf53 cJ15_checkIndex_7cf53 2 (some .int), Cond.methodLink RJ15 105 yJ3_checkIndex_8e157, Cond.static yJ3_checkIndex_8e157, Cond.initialized RJ3, Cond.code yJ3_checkIndex_8e157 cJ3_checkIndex_8e157 3 (some .int), Cond.methodLink RJx4a65c 123 yJx4a65c_elementData_915e3, Cond.instanceMethod yJx4a65c_elementData_915e3, Cond.selects RJx4a65c yJx4a65c_elementData_915e3 yJx4a65c_elementData_915e3, Cond.code yJx4a65c_elementData_915e3 cJx4a65c_elementData_915e3 2 (some (.object "java/lang/Object")), Cond.fieldLink RJx4a65c 9 "java/util/ArrayList" "elementData" "[Ljava/lang/Object;", Cond.methodLink RX1 25 yX1_fill, Cond.instanceMethod yX1_fill, Cond.selects RX1 yX1_fill yX1_fill]
def wsL_tick_r4 : List Cond := [Cond.code yX1_fill cX1_fill 5 none, Cond.constantLong RX1 29 (1000), Cond.fieldLink RX1 22 "LeaseGates$Bucket" "burst" "I", Cond.fieldLink RX1 31 "LeaseGates$Bucket" "lent" "I", Cond.methodLink RX1 34 Lib.MathLoose.max_long.x, Cond.static Lib.MathLoose.max_long.x, Cond.initialized "java/lang/Math", Cond.code Lib.MathLoose.max_long.x Lib.MathLoose.max_long.code 4 (some .long), Cond.fieldLink RX1 40 "LeaseGates$Bucket" "level" "I", Cond.methodLink RX1 43 Lib.MathLoose.min_long.x, Cond.static Lib.MathLoose.min_long.x, Cond.code Lib.MathLoose.min_long.x Lib.MathLoose.min_long.code 4 (some .long), Cond.methodLink RX1 62 yX1_close, Cond.instanceMethod yX1_close, Cond.selects RX1 yX1_close yX1_close, Cond.code yX1_close cX1_close 2 none, Cond.fieldLink RX1 66 "LeaseGates$Loan" "tokens" "I", Cond.methodLink RX1 69 yJx4a65c_remove_915e3, Cond.instanceMethod yJx4a65c_remove_915e3, Cond.selects RJx4a65c yJx4a65c_remove_915e3 yJx4a65c_remove_915e3, Cond.code yJx4a65c_remove_915e3 cJx4a65c_remove_915e3 4 (some (.object "java/lang/Object")), Cond.methodLink RJx4a65c 144 yJx4a65c_fastRemove_b59b0, Cond.instanceMethod yJx4a65c_fastRemove_b59b0, Cond.selects RJx4a65c yJx4a65c_fastRemove_b59b0 yJx4a65c_fastRemove_b59b0]
def wsL_tick_r5 : List Cond := [Cond.code yJx4a65c_fastRemove_b59b0 cJx4a65c_fastRemove_b59b0 4 none, Cond.fieldLink RJx4a65c 63 "java/util/ArrayList" "modCount" "I", Cond.sameField "java/util/ArrayList" "java/util/AbstractList" "modCount" "I", Cond.methodLink RJx4a65c 112 arraycopyName, Cond.native arraycopyName, Cond.static arraycopyName, Cond.initialized "java/lang/System", Cond.methodLink RX10 123 yX9_advance]
def wsL_tick : List Cond := .codeWith yL_tick cL_tick 3 (some .int) [(0, 5, 8, 13)] :: ((wsL_tick_r1 ++ (wsL_tick_r2 ++ (wsL_tick_r3 ++ (wsL_tick_r4 ++ wsL_tick_r5)))) ++ wsX100 ++ wsX30 ++ wsX80 ++ wsX90 ++ wsX10 ++ wsX50 ++ wsJx4a65c0 ++ (vx_atS RX10 196 "java/lang/IllegalArgumentException" ["java/lang/RuntimeException", "java/lang/Exception"]).filter goodWord)
def wsL_restart_r1 : List Cond := [Cond.classLink RL 13 "java/lang/IllegalArgumentException", Cond.methodLink RL 44 yX10_restart, Cond.instanceMethod yX10_restart, Cond.selects RX10 yX10_restart yX10_restart, Cond.initialized RX10, Cond.code yX10_restart cX10_restart 2 (some .int), Cond.fieldLink RX10 25 "LeaseGates" "spenders" "[LLeaseGates$Gate;", Cond.methodLink RX10 55 yX10_requireGate, Cond.static yX10_requireGate, Cond.code yX10_requireGate cX10_requireGate 1 none, Cond.methodLink RX10 36 yX10_requireWithin, Cond.static yX10_requireWithin, Cond.code yX10_requireWithin cX10_requireWithin 3 none, Cond.classLink RX10 192 "java/lang/IllegalArgumentException", Cond.initialized "java/lang/IllegalArgumentException", Cond.methodLink RX10 124 yX3_startAnew, Cond.instanceMethod yX3_startAnew, Cond.selects RX3 yX3_startAnew yX3_startAnew, Cond.initialized RX3, Cond.code yX3_startAnew cX3_startAnew 2 (some .int), Cond.fieldLink RX3 20 "LeaseGates$Gate" "desks" "[LLeaseGates$Desk;", Cond.fieldLink RX3 35 "LeaseGates$Gate" "birth" "I", Cond.methodLink RX3 53 yX2_clear, Cond.instanceMethod yX2_clear]
def wsL_restart_r2 : List Cond := [Cond.selects RX2 yX2_clear yX2_clear, Cond.initialized RX2, Cond.code yX2_clear cX2_clear 1 none, Cond.fieldLink RX2 12 "LeaseGates$Desk" "holds" "Ljava/util/ArrayList;", Cond.fieldLink RX2 28 "LeaseGates$Desk" "demand" "I", Cond.fieldLink RX2 31 "LeaseGates$Desk" "use" "I", Cond.fieldLink RX2 34 "LeaseGates$Desk" "asks" "I", Cond.fieldLink RX2 37 "LeaseGates$Desk" "open" "Z", Cond.fieldLink RX2 41 "LeaseGates$Desk" "openSince" "I", Cond.fieldLink RX2 44 "LeaseGates$Desk" "refusals" "I", Cond.methodLink RX2 25 yJx4a65c_clear_da8c8, Cond.instanceMethod yJx4a65c_clear_da8c8, Cond.selects RJx4a65c yJx4a65c_clear_da8c8 yJx4a65c_clear_da8c8, Cond.initialized RJx4a65c, Cond.code yJx4a65c_clear_da8c8 cJx4a65c_clear_da8c8 4 none, Cond.fieldLink RJx4a65c 63 "java/util/ArrayList" "modCount" "I", Cond.sameField "java/util/ArrayList" "java/util/AbstractList" "modCount" "I", Cond.fieldLink RJx4a65c 9 "java/util/ArrayList" "elementData" "[Ljava/lang/Object;", Cond.fieldLink RJx4a65c 48 "java/util/ArrayList" "size" "I"]
def wsL_restart : List Cond := .codeWith yL_restart cL_restart 4 (some .int) [(0, 9, 12, 13)] :: ((wsL_restart_r1 ++ wsL_restart_r2) ++ wsX100 ++ wsX30 ++ wsX20 ++ wsJx4a65c0 ++ (vx_atS RX10 196 "java/lang/IllegalArgumentException" ["java/lang/RuntimeException", "java/lang/Exception"]).filter goodWord)
def wsL_root_r1 : List Cond := [Cond.classLink RL 13 "java/lang/IllegalArgumentException", Cond.methodLink RL 47 yX10_root, Cond.instanceMethod yX10_root, Cond.selects RX10 yX10_root yX10_root, Cond.initialized RX10, Cond.code yX10_root cX10_root 4 (some .int), Cond.fieldLink RX10 10 "LeaseGates" "lender" "LLeaseGates$Root;", Cond.fieldLink RX10 41 "LeaseGates$Root" "buckets" "[LLeaseGates$Bucket;", Cond.fieldLink RX10 80 "LeaseGates$Bucket" "spentAtGates" "I", Cond.fieldLink RX10 128 "LeaseGates$Bucket" "level" "I", Cond.fieldLink RX10 131 "LeaseGates$Bucket" "lent" "I", Cond.fieldLink RX10 134 "LeaseGates$Bucket" "loans" "Ljava/util/ArrayList;", Cond.methodLink RX10 32 yX10_requireKey, Cond.static yX10_requireKey, Cond.code yX10_requireKey cX10_requireKey 1 none, Cond.methodLink RX10 36 yX10_requireWithin, Cond.static yX10_requireWithin, Cond.code yX10_requireWithin cX10_requireWithin 3 none, Cond.classLink RX10 192 "java/lang/IllegalArgumentException", Cond.initialized "java/lang/IllegalArgumentException", Cond.methodLink RX10 138 yJx4a65c_size_8abf5, Cond.instanceMethod yJx4a65c_size_8abf5, Cond.selects RJx4a65c yJx4a65c_size_8abf5 yJx4a65c_size_8abf5, Cond.initialized RJx4a65c]
def wsL_root_r2 : List Cond := [Cond.code yJx4a65c_size_8abf5 cJx4a65c_size_8abf5 1 (some .int), Cond.fieldLink RJx4a65c 48 "java/util/ArrayList" "size" "I"]
def wsL_root : List Cond := .codeWith yL_root cL_root 5 (some .int) [(0, 10, 13, 13)] :: ((wsL_root_r1 ++ wsL_root_r2) ++ wsX100 ++ wsX80 ++ wsX10 ++ wsJx4a65c0 ++ (vx_atS RX10 196 "java/lang/IllegalArgumentException" ["java/lang/RuntimeException", "java/lang/Exception"]).filter goodWord)
def wsL_gate_r1 : List Cond := [Cond.classLink RL 13 "java/lang/IllegalArgumentException", Cond.methodLink RL 51 yX10_gate, Cond.instanceMethod yX10_gate, Cond.selects RX10 yX10_gate yX10_gate, Cond.initialized RX10, Cond.code yX10_gate cX10_gate 5 (some .int), Cond.fieldLink RX10 25 "LeaseGates" "spenders" "[LLeaseGates$Gate;", Cond.fieldLink RX10 143 "LeaseGates$Gate" "desks" "[LLeaseGates$Desk;", Cond.fieldLink RX10 119 "LeaseGates$Gate" "ticker" "LLeaseGates$Ticker;", Cond.fieldLink RX10 156 "LeaseGates$Desk" "holds" "Ljava/util/ArrayList;", Cond.fieldLink RX10 159 "LeaseGates$Desk" "demand" "I", Cond.fieldLink RX10 162 "LeaseGates$Desk" "use" "I", Cond.fieldLink RX10 165 "LeaseGates$Desk" "asks" "I", Cond.fieldLink RX10 168 "LeaseGates$Desk" "open" "Z", Cond.fieldLink RX10 172 "LeaseGates$Desk" "refusals" "I", Cond.methodLink RX10 55 yX10_requireGate, Cond.static yX10_requireGate, Cond.code yX10_requireGate cX10_requireGate 1 none, Cond.methodLink RX10 36 yX10_requireWithin, Cond.static yX10_requireWithin, Cond.code yX10_requireWithin cX10_requireWithin 3 none, Cond.classLink RX10 192 "java/lang/IllegalArgumentException", Cond.initialized "java/lang/IllegalArgumentException", Cond.methodLink RX10 32 yX10_requireKey]
def wsL_gate_r2 : List Cond := [Cond.static yX10_requireKey, Cond.code yX10_requireKey cX10_requireKey 1 none, Cond.methodLink RX10 147 yX9_now, Cond.instanceMethod yX9_now, Cond.selects RX9 yX9_now yX9_now, Cond.initialized RX9, Cond.code yX9_now cX9_now 1 (some .int), Cond.fieldLink RX9 13 "LeaseGates$Ticker" "thousandths" "J", Cond.constantLong RX9 17 (1000), Cond.methodLink RX10 150 yX2_liveTokens, Cond.instanceMethod yX2_liveTokens, Cond.selects RX2 yX2_liveTokens yX2_liveTokens, Cond.initialized RX2, Cond.code yX2_liveTokens cX2_liveTokens 5 (some .int), Cond.fieldLink RX2 12 "LeaseGates$Desk" "holds" "Ljava/util/ArrayList;", Cond.classLink RX2 55 "LeaseGates$Hold", Cond.fieldLink RX2 61 "LeaseGates$Hold" "tokens" "I", Cond.methodLink RX2 47 yJx4a65c_size_8abf5, Cond.instanceMethod yJx4a65c_size_8abf5, Cond.selects RJx4a65c yJx4a65c_size_8abf5 yJx4a65c_size_8abf5, Cond.initialized RJx4a65c, Cond.code yJx4a65c_size_8abf5 cJx4a65c_size_8abf5 1 (some .int), Cond.fieldLink RJx4a65c 48 "java/util/ArrayList" "size" "I", Cond.methodLink RX2 51 yJx4a65c_get_915e3]
def wsL_gate_r3 : List Cond := [Cond.instanceMethod yJx4a65c_get_915e3, Cond.selects RJx4a65c yJx4a65c_get_915e3 yJx4a65c_get_915e3, Cond.code yJx4a65c_get_915e3 cJx4a65c_get_915e3 2 (some (.object "java/lang/Object")), Cond.methodLink RJx4a65c 118 yJ15_checkIndex_7cf53, Cond.static yJ15_checkIndex_7cf53, Cond.initialized RJ15, Cond.code yJ15_checkIndex_7cf53 cJ15_checkIndex_7cf53 2 (some .int), Cond.methodLink RJ15 105 yJ3_checkIndex_8e157, Cond.static yJ3_checkIndex_8e157, Cond.initialized RJ3, Cond.code yJ3_checkIndex_8e157 cJ3_checkIndex_8e157 3 (some .int), Cond.methodLink RJx4a65c 123 yJx4a65c_elementData_915e3, Cond.instanceMethod yJx4a65c_elementData_915e3, Cond.selects RJx4a65c yJx4a65c_elementData_915e3 yJx4a65c_elementData_915e3, Cond.code yJx4a65c_elementData_915e3 cJx4a65c_elementData_915e3 2 (some (.object "java/lang/Object")), Cond.fieldLink RJx4a65c 9 "java/util/ArrayList" "elementData" "[Ljava/lang/Object;", Cond.methodLink RX2 57 yX4_isLive, Cond.instanceMethod yX4_isLive, Cond.selects RX4 yX4_isLive yX4_isLive, Cond.initialized RX4, Cond.code yX4_isLive cX4_isLive 2 (some .boolean), Cond.fieldLink RX4 16 "LeaseGates$Hold" "asked" "I", Cond.fieldLink RX4 22 "LeaseGates$Hold" "span" "I", Cond.methodLink RX10 138 yJx4a65c_size_8abf5]
def wsL_gate : List Cond := .codeWith yL_gate cL_gate 6 (some .int) [(0, 12, 15, 13)] :: ((wsL_gate_r1 ++ (wsL_gate_r2 ++ wsL_gate_r3)) ++ wsX100 ++ wsX30 ++ wsX20 ++ wsX90 ++ wsX40 ++ wsJx4a65c0 ++ (vx_atS RX10 196 "java/lang/IllegalArgumentException" ["java/lang/RuntimeException", "java/lang/Exception"]).filter goodWord)
def wsL_message_r1 : List Cond := [Cond.classLink RL 13 "java/lang/IllegalArgumentException", Cond.methodLink RL 55 yX10_message, Cond.instanceMethod yX10_message, Cond.selects RX10 yX10_message yX10_message, Cond.initialized RX10, Cond.code yX10_message cX10_message 4 (some .int), Cond.fieldLink RX10 94 "LeaseGates$Message" "kind" "I", Cond.fieldLink RX10 107 "LeaseGates$Message" "gate" "I", Cond.fieldLink RX10 175 "LeaseGates$Message" "key" "I", Cond.fieldLink RX10 178 "LeaseGates$Message" "tokens" "I", Cond.fieldLink RX10 181 "LeaseGates$Message" "birth" "I", Cond.fieldLink RX10 184 "LeaseGates$Message" "count" "I", Cond.fieldLink RX10 185 "LeaseGates$Message" "loan" "I", Cond.methodLink RX10 90 yX10_requireMessage, Cond.instanceMethod yX10_requireMessage, Cond.selects RX10 yX10_requireMessage yX10_requireMessage, Cond.code yX10_requireMessage cX10_requireMessage 3 (some (.object "LeaseGates$Message")), Cond.classLink RX10 192 "java/lang/IllegalArgumentException", Cond.initialized "java/lang/IllegalArgumentException", Cond.fieldLink RX10 19 "LeaseGates" "post" "LLeaseGates$Post;", Cond.methodLink RX10 189 yX7_find, Cond.instanceMethod yX7_find, Cond.selects RX7 yX7_find yX7_find, Cond.initialized RX7]
def wsL_message_r2 : List Cond := [Cond.code yX7_find cX7_find 2 (some (.object "LeaseGates$Message")), Cond.fieldLink RX7 17 "LeaseGates$Post" "count" "I", Cond.fieldLink RX7 11 "LeaseGates$Post" "slots" "[LLeaseGates$Message;", Cond.methodLink RX10 36 yX10_requireWithin, Cond.static yX10_requireWithin, Cond.code yX10_requireWithin cX10_requireWithin 3 none]
def wsL_message : List Cond := .codeWith yL_message cL_message 5 (some .int) [(0, 10, 13, 13)] :: ((wsL_message_r1 ++ wsL_message_r2) ++ wsX60 ++ wsX100 ++ wsX70 ++ (vx_atS RX10 196 "java/lang/IllegalArgumentException" ["java/lang/RuntimeException", "java/lang/Exception"]).filter goodWord)
def wsL_clock_r1 : List Cond := [Cond.classLink RL 13 "java/lang/IllegalArgumentException", Cond.methodLink RL 58 yX10_clock, Cond.instanceMethod yX10_clock, Cond.selects RX10 yX10_clock yX10_clock, Cond.initialized RX10, Cond.code yX10_clock cX10_clock 2 (some .int), Cond.methodLink RX10 36 yX10_requireWithin, Cond.static yX10_requireWithin, Cond.code yX10_requireWithin cX10_requireWithin 3 none, Cond.classLink RX10 192 "java/lang/IllegalArgumentException", Cond.initialized "java/lang/IllegalArgumentException", Cond.methodLink RX10 67 yX10_tickerOf, Cond.instanceMethod yX10_tickerOf, Cond.selects RX10 yX10_tickerOf yX10_tickerOf, Cond.code yX10_tickerOf cX10_tickerOf 2 (some (.object "LeaseGates$Ticker")), Cond.fieldLink RX10 10 "LeaseGates" "lender" "LLeaseGates$Root;", Cond.fieldLink RX10 188 "LeaseGates$Root" "ticker" "LLeaseGates$Ticker;", Cond.fieldLink RX10 25 "LeaseGates" "spenders" "[LLeaseGates$Gate;", Cond.fieldLink RX10 119 "LeaseGates$Gate" "ticker" "LLeaseGates$Ticker;", Cond.methodLink RX10 147 yX9_now, Cond.instanceMethod yX9_now, Cond.selects RX9 yX9_now yX9_now, Cond.initialized RX9, Cond.code yX9_now cX9_now 1 (some .int)]
def wsL_clock_r2 : List Cond := [Cond.fieldLink RX9 13 "LeaseGates$Ticker" "thousandths" "J", Cond.constantLong RX9 17 (1000)]
def wsL_clock : List Cond := .codeWith yL_clock cL_clock 4 (some .int) [(0, 9, 12, 13)] :: ((wsL_clock_r1 ++ wsL_clock_r2) ++ wsX100 ++ wsX80 ++ wsX30 ++ wsX90 ++ (vx_atS RX10 196 "java/lang/IllegalArgumentException" ["java/lang/RuntimeException", "java/lang/Exception"]).filter goodWord)
def wsL_law0_r1 : List Cond := [Cond.classLink RL 8 RX10, Cond.instantiable RX10 3, Cond.initialized RX10, Cond.classLink RL 62 RX11, Cond.instantiable RX11 34, Cond.initialized RX11, Cond.arrayClass .long, Cond.methodLink RL 61 yX10_init, Cond.instanceMethod yX10_init, Cond.code yX10_init cX10_init 2 none, Cond.methodLink RX10 1 objectInit, Cond.instanceMethod objectInit, Cond.code objectInit ⟨#[0xb1]⟩ 1 none, Cond.classLink RX10 7 RX8, Cond.instantiable RX8 6, Cond.initialized RX8, Cond.fieldLink RX10 10 "LeaseGates" "lender" "LLeaseGates$Root;", Cond.classLink RX10 16 RX7, Cond.instantiable RX7 2, Cond.initialized RX7, Cond.fieldLink RX10 19 "LeaseGates" "post" "LLeaseGates$Post;", Cond.classLink RX10 23 RX3, Cond.fieldLink RX10 25 "LeaseGates" "spenders" "[LLeaseGates$Gate;", Cond.instantiable RX3 3]
def wsL_law0_r2 : List Cond := [Cond.initialized RX3, Cond.methodLink RX10 9 yX8_init, Cond.instanceMethod yX8_init, Cond.code yX8_init cX8_init 2 none, Cond.methodLink RX8 3 objectInit, Cond.classLink RX8 9 RX9, Cond.instantiable RX9 2, Cond.initialized RX9, Cond.fieldLink RX8 12 "LeaseGates$Root" "ticker" "LLeaseGates$Ticker;", Cond.classLink RX8 18 RX1, Cond.fieldLink RX8 20 "LeaseGates$Root" "buckets" "[LLeaseGates$Bucket;", Cond.classLink RX8 24 RX0, Cond.fieldLink RX8 26 "LeaseGates$Root" "accounts" "[LLeaseGates$Account;", Cond.arrayClass .int, Cond.fieldLink RX8 30 "LeaseGates$Root" "births" "[I", Cond.fieldLink RX8 34 "LeaseGates$Root" "loanLength" "I", Cond.instantiable RX1 6, Cond.initialized RX1, Cond.instantiable RX0 4, Cond.initialized RX0, Cond.instanceMethod yX9_init, Cond.code yX9_init cX9_init 1 none, Cond.methodLink RX9 1 objectInit, Cond.fieldLink RX9 7 "LeaseGates$Ticker" "pace" "I"]
def wsL_law0_r3 : List Cond := [Cond.instanceMethod yX1_init, Cond.code yX1_init cX1_init 1 none, Cond.methodLink RX1 3 objectInit, Cond.classLink RX1 9 RJx4a65c, Cond.instantiable RJx4a65c 3, Cond.initialized RJx4a65c, Cond.fieldLink RX1 12 "LeaseGates$Bucket" "loans" "Ljava/util/ArrayList;", Cond.methodLink RX1 11 yJx4a65c_init_da8c8, Cond.instanceMethod yJx4a65c_init_da8c8, Cond.code yJx4a65c_init_da8c8 cJx4a65c_init_da8c8 1 none, Cond.fieldLink RJx4a65c 39 "java/util/ArrayList" "DEFAULTCAPACITY_EMPTY_ELEMENTDATA" "[Ljava/lang/Object;", Cond.fieldLink RJx4a65c 9 "java/util/ArrayList" "elementData" "[Ljava/lang/Object;", Cond.methodLink RJx4a65c 1 yJxc12de_init_da8c8, Cond.instanceMethod yJxc12de_init_da8c8, Cond.initialized RJxc12de, Cond.code yJxc12de_init_da8c8 cJxc12de_init_da8c8 1 none, Cond.fieldLink RJxc12de 7 "java/util/AbstractList" "modCount" "I", Cond.methodLink RJxc12de 1 yJxa1e45_init_da8c8, Cond.instanceMethod yJxa1e45_init_da8c8, Cond.initialized RJxa1e45, Cond.code yJxa1e45_init_da8c8 cJxa1e45_init_da8c8 1 none, Cond.methodLink RJxa1e45 1 objectInit, Cond.instanceMethod yX0_init, Cond.code yX0_init cX0_init 1 none]
def wsL_law0_r4 : List Cond := [Cond.methodLink RX0 1 objectInit, Cond.fieldLink RX0 7 "LeaseGates$Account" "share" "I", Cond.instanceMethod yX7_init, Cond.code yX7_init cX7_init 1 none, Cond.methodLink RX7 3 objectInit, Cond.classLink RX7 9 RX6, Cond.fieldLink RX7 11 "LeaseGates$Post" "slots" "[LLeaseGates$Message;", Cond.methodLink RX10 29 yX3_init, Cond.instanceMethod yX3_init, Cond.code yX3_init cX3_init 3 none, Cond.methodLink RX3 3 objectInit, Cond.classLink RX3 9 RX9, Cond.fieldLink RX3 12 "LeaseGates$Gate" "ticker" "LLeaseGates$Ticker;", Cond.classLink RX3 18 RX2, Cond.fieldLink RX3 20 "LeaseGates$Gate" "desks" "[LLeaseGates$Desk;", Cond.instantiable RX2 9, Cond.initialized RX2, Cond.methodLink RX3 24 yX2_init, Cond.instanceMethod yX2_init, Cond.code yX2_init cX2_init 3 none, Cond.methodLink RX2 3 objectInit, Cond.classLink RX2 9 RJx4a65c, Cond.fieldLink RX2 12 "LeaseGates$Desk" "holds" "Ljava/util/ArrayList;", Cond.fieldLink RX2 18 "LeaseGates$Desk" "gate" "I"]
def wsL_law0_r5 : List Cond := [Cond.fieldLink RX2 22 "LeaseGates$Desk" "key" "I", Cond.methodLink RX2 11 yJx4a65c_init_da8c8, Cond.methodLink RL 64 yX11_init, Cond.instanceMethod yX11_init, Cond.code yX11_init cX11_init 2 none, Cond.methodLink RX11 1 objectInit, Cond.fieldLink RX11 7 "LeaseGatesModel" "gone" "[J", Cond.fieldLink RX11 13 "LeaseGatesModel" "speeds" "[I", Cond.fieldLink RX11 17 "LeaseGatesModel" "rates" "[I", Cond.fieldLink RX11 20 "LeaseGatesModel" "bursts" "[I", Cond.fieldLink RX11 23 "LeaseGatesModel" "levels" "[J", Cond.fieldLink RX11 26 "LeaseGatesModel" "granted" "[I", Cond.fieldLink RX11 29 "LeaseGatesModel" "loanKey" "[I", Cond.fieldLink RX11 32 "LeaseGatesModel" "loanTokens" "[I", Cond.fieldLink RX11 35 "LeaseGatesModel" "loanEnd" "[I", Cond.fieldLink RX11 38 "LeaseGatesModel" "length" "I", Cond.fieldLink RX11 42 "LeaseGatesModel" "heard" "[I", Cond.fieldLink RX11 45 "LeaseGatesModel" "answered" "[I", Cond.fieldLink RX11 48 "LeaseGatesModel" "lastNumber" "[I", Cond.fieldLink RX11 51 "LeaseGatesModel" "lastTokens" "[I", Cond.fieldLink RX11 54 "LeaseGatesModel" "lastLength" "[I", Cond.arrayClass .boolean, Cond.fieldLink RX11 57 "LeaseGatesModel" "hasAsked" "[Z", Cond.fieldLink RX11 61 "LeaseGatesModel" "askedAt" "[I"]
def wsL_law0_r6 : List Cond := [Cond.fieldLink RX11 64 "LeaseGatesModel" "weights" "[I", Cond.fieldLink RX11 67 "LeaseGatesModel" "births" "[I", Cond.fieldLink RX11 70 "LeaseGatesModel" "demand" "[I", Cond.fieldLink RX11 73 "LeaseGatesModel" "use" "[I", Cond.fieldLink RX11 76 "LeaseGatesModel" "counts" "[I", Cond.fieldLink RX11 79 "LeaseGatesModel" "isOpen" "[Z", Cond.fieldLink RX11 82 "LeaseGatesModel" "since" "[I", Cond.fieldLink RX11 85 "LeaseGatesModel" "refusals" "[I", Cond.fieldLink RX11 88 "LeaseGatesModel" "holder" "[I", Cond.fieldLink RX11 91 "LeaseGatesModel" "held" "[I", Cond.fieldLink RX11 94 "LeaseGatesModel" "heldSince" "[I", Cond.fieldLink RX11 97 "LeaseGatesModel" "heldLength" "[I", Cond.fieldLink RX11 100 "LeaseGatesModel" "told" "[I", Cond.fieldLink RX11 103 "LeaseGatesModel" "isThere" "[Z", Cond.methodLink RL 65 yL_key, Cond.static yL_key, Cond.initialized RL, Cond.codeWith yL_key cL_key 5 (some .int) [(0, 7, 10, 13)], Cond.classLink RL 13 "java/lang/IllegalArgumentException", Cond.methodLink RL 7 yX10_key, Cond.instanceMethod yX10_key, Cond.selects RX10 yX10_key yX10_key, Cond.code yX10_key cX10_key 4 none, Cond.constant RX10 35 (100000)]
def wsL_law0_r7 : List Cond := [Cond.constant RX10 40 (1000000), Cond.fieldLink RX10 41 "LeaseGates$Root" "buckets" "[LLeaseGates$Bucket;", Cond.methodLink RX10 32 yX10_requireKey, Cond.static yX10_requireKey, Cond.code yX10_requireKey cX10_requireKey 1 none, Cond.methodLink RX10 36 yX10_requireWithin, Cond.static yX10_requireWithin, Cond.code yX10_requireWithin cX10_requireWithin 3 none, Cond.classLink RX10 192 "java/lang/IllegalArgumentException", Cond.initialized "java/lang/IllegalArgumentException", Cond.methodLink RX10 45 yX1_reshape, Cond.instanceMethod yX1_reshape, Cond.selects RX1 yX1_reshape yX1_reshape, Cond.code yX1_reshape cX1_reshape 3 none, Cond.fieldLink RX1 18 "LeaseGates$Bucket" "rate" "I", Cond.fieldLink RX1 22 "LeaseGates$Bucket" "burst" "I", Cond.methodLink RX1 25 yX1_fill, Cond.instanceMethod yX1_fill, Cond.selects RX1 yX1_fill yX1_fill, Cond.code yX1_fill cX1_fill 5 none, Cond.constantLong RX1 29 (1000), Cond.fieldLink RX1 31 "LeaseGates$Bucket" "lent" "I", Cond.methodLink RX1 34 Lib.MathLoose.max_long.x, Cond.static Lib.MathLoose.max_long.x]
def wsL_law0_r8 : List Cond := [Cond.initialized "java/lang/Math", Cond.code Lib.MathLoose.max_long.x Lib.MathLoose.max_long.code 4 (some .long), Cond.fieldLink RX1 40 "LeaseGates$Bucket" "level" "I", Cond.methodLink RX1 43 Lib.MathLoose.min_long.x, Cond.static Lib.MathLoose.min_long.x, Cond.code Lib.MathLoose.min_long.x Lib.MathLoose.min_long.code 4 (some .long), Cond.methodLink RL 70 yX11_key, Cond.instanceMethod yX11_key, Cond.selects RX11 yX11_key yX11_key, Cond.code yX11_key cX11_key 4 none, Cond.constant RX11 122 (100000), Cond.constant RX11 123 (1000000), Cond.methodLink RX11 118 yX11_isIn, Cond.static yX11_isIn, Cond.code yX11_isIn cX11_isIn 3 (some .boolean), Cond.methodLink RX11 124 yX11_refused, Cond.instanceMethod yX11_refused, Cond.selects RX11 yX11_refused yX11_refused, Cond.code yX11_refused cX11_refused 2 (some .boolean), Cond.fieldLink RX11 106 "LeaseGatesModel" "refusal" "I", Cond.methodLink RX11 128 yX11_fill, Cond.instanceMethod yX11_fill, Cond.selects RX11 yX11_fill yX11_fill, Cond.code yX11_fill cX11_fill 8 none]
def wsL_law0_r9 : List Cond := [Cond.constantLong RX11 109 (1000), Cond.methodLink RX11 114 yX11_lent, Cond.instanceMethod yX11_lent, Cond.selects RX11 yX11_lent yX11_lent, Cond.code yX11_lent cX11_lent 4 (some .int), Cond.fieldLink RX11 111 "LeaseGatesModel" "loans" "I", Cond.methodLink RL 71 yX11_thrown, Cond.instanceMethod yX11_thrown, Cond.selects RX11 yX11_thrown yX11_thrown, Cond.code yX11_thrown cX11_thrown 1 (some .int), Cond.methodLink RL 75 yL_length, Cond.static yL_length, Cond.codeWith yL_length cL_length 3 (some .int) [(0, 5, 8, 13)], Cond.methodLink RL 15 yX10_length, Cond.instanceMethod yX10_length, Cond.selects RX10 yX10_length yX10_length, Cond.code yX10_length cX10_length 2 none, Cond.fieldLink RX10 51 "LeaseGates$Root" "loanLength" "I", Cond.methodLink RL 78 yX11_length, Cond.instanceMethod yX11_length, Cond.selects RX11 yX11_length yX11_length, Cond.code yX11_length cX11_length 2 none, Cond.methodLink RL 79 yL_weight, Cond.static yL_weight]
def wsL_law0_r10 : List Cond := [Cond.codeWith yL_weight cL_weight 5 (some .int) [(0, 7, 10, 13)], Cond.methodLink RL 19 yX10_weight, Cond.instanceMethod yX10_weight, Cond.selects RX10 yX10_weight yX10_weight, Cond.code yX10_weight cX10_weight 4 none, Cond.fieldLink RX10 62 "LeaseGates$Account" "share" "I", Cond.methodLink RX10 55 yX10_requireGate, Cond.static yX10_requireGate, Cond.code yX10_requireGate cX10_requireGate 1 none, Cond.methodLink RX10 58 yX8_accountOf, Cond.instanceMethod yX8_accountOf, Cond.selects RX8 yX8_accountOf yX8_accountOf, Cond.code yX8_accountOf cX8_accountOf 3 (some (.object "LeaseGates$Account")), Cond.methodLink RL 81 yX11_weight, Cond.instanceMethod yX11_weight, Cond.selects RX11 yX11_weight yX11_weight, Cond.code yX11_weight cX11_weight 4 none, Cond.methodLink RL 82 yL_speed, Cond.static yL_speed, Cond.codeWith yL_speed cL_speed 4 (some .int) [(0, 6, 9, 13)], Cond.methodLink RL 22 yX10_speed, Cond.instanceMethod yX10_speed, Cond.selects RX10 yX10_speed yX10_speed, Cond.code yX10_speed cX10_speed 3 none]
def wsL_law0_r11 : List Cond := [Cond.fieldLink RX10 71 "LeaseGates$Ticker" "pace" "I", Cond.methodLink RX10 67 yX10_tickerOf, Cond.instanceMethod yX10_tickerOf, Cond.selects RX10 yX10_tickerOf yX10_tickerOf, Cond.code yX10_tickerOf cX10_tickerOf 2 (some (.object "LeaseGates$Ticker")), Cond.fieldLink RX10 188 "LeaseGates$Root" "ticker" "LLeaseGates$Ticker;", Cond.fieldLink RX10 119 "LeaseGates$Gate" "ticker" "LLeaseGates$Ticker;", Cond.methodLink RL 85 yX11_speed, Cond.instanceMethod yX11_speed, Cond.selects RX11 yX11_speed yX11_speed, Cond.code yX11_speed cX11_speed 3 none, Cond.methodLink RL 86 yL_take, Cond.static yL_take, Cond.codeWith yL_take cL_take 6 (some .int) [(0, 19, 22, 13)], Cond.methodLink RL 26 yX10_take, Cond.instanceMethod yX10_take, Cond.selects RX10 yX10_take yX10_take, Cond.code yX10_take cX10_take 5 (some .boolean), Cond.fieldLink RX10 80 "LeaseGates$Bucket" "spentAtGates" "I", Cond.methodLink RX10 76 yX3_spend, Cond.instanceMethod yX3_spend, Cond.selects RX3 yX3_spend yX3_spend, Cond.code yX3_spend cX3_spend 3 (some .boolean), Cond.methodLink RX3 27 yX9_now]
def wsL_law0_r12 : List Cond := [Cond.instanceMethod yX9_now, Cond.selects RX9 yX9_now yX9_now, Cond.code yX9_now cX9_now 1 (some .int), Cond.fieldLink RX9 13 "LeaseGates$Ticker" "thousandths" "J", Cond.constantLong RX9 17 (1000), Cond.methodLink RX3 31 yX2_spend, Cond.instanceMethod yX2_spend, Cond.selects RX2 yX2_spend yX2_spend, Cond.code yX2_spend cX2_spend 3 (some .boolean), Cond.fieldLink RX2 31 "LeaseGates$Desk" "use" "I", Cond.fieldLink RX2 44 "LeaseGates$Desk" "refusals" "I", Cond.methodLink RX2 64 yX2_liveTokens, Cond.instanceMethod yX2_liveTokens, Cond.selects RX2 yX2_liveTokens yX2_liveTokens, Cond.code yX2_liveTokens cX2_liveTokens 5 (some .int), Cond.classLink RX2 55 "LeaseGates$Hold", Cond.fieldLink RX2 61 "LeaseGates$Hold" "tokens" "I", Cond.methodLink RX2 47 yJx4a65c_size_8abf5, Cond.instanceMethod yJx4a65c_size_8abf5, Cond.selects RJx4a65c yJx4a65c_size_8abf5 yJx4a65c_size_8abf5, Cond.code yJx4a65c_size_8abf5 cJx4a65c_size_8abf5 1 (some .int), Cond.fieldLink RJx4a65c 48 "java/util/ArrayList" "size" "I", Cond.methodLink RX2 51 yJx4a65c_get_915e3, Cond.instanceMethod yJx4a65c_get_915e3]
def wsL_law0_r13 : List Cond := [Cond.selects RJx4a65c yJx4a65c_get_915e3 yJx4a65c_get_915e3, Cond.code yJx4a65c_get_915e3 cJx4a65c_get_915e3 2 (some (.object "java/lang/Object")), Cond.methodLink RJx4a65c 118 yJ15_checkIndex_7cf53, Cond.static yJ15_checkIndex_7cf53, Cond.initialized RJ15, Cond.code yJ15_checkIndex_7cf53 cJ15_checkIndex_7cf53 2 (some .int), Cond.methodLink RJ15 105 yJ3_checkIndex_8e157, Cond.static yJ3_checkIndex_8e157, Cond.initialized RJ3, Cond.code yJ3_checkIndex_8e157 cJ3_checkIndex_8e157 3 (some .int), Cond.methodLink RJx4a65c 123 yJx4a65c_elementData_915e3, Cond.instanceMethod yJx4a65c_elementData_915e3, Cond.selects RJx4a65c yJx4a65c_elementData_915e3 yJx4a65c_elementData_915e3, Cond.code yJx4a65c_elementData_915e3 cJx4a65c_elementData_915e3 2 (some (.object "java/lang/Object")), Cond.methodLink RX2 57 yX4_isLive, Cond.instanceMethod yX4_isLive, Cond.selects RX4 yX4_isLive yX4_isLive, Cond.initialized RX4, Cond.code yX4_isLive cX4_isLive 2 (some .boolean), Cond.fieldLink RX4 16 "LeaseGates$Hold" "asked" "I", Cond.fieldLink RX4 22 "LeaseGates$Hold" "span" "I", Cond.methodLink RX2 68 yX2_takeOut, Cond.instanceMethod yX2_takeOut, Cond.selects RX2 yX2_takeOut yX2_takeOut]
def wsL_law0_r14 : List Cond := [Cond.code yX2_takeOut cX2_takeOut 8 none, Cond.methodLink RX2 75 Lib.Math.min.name, Cond.static Lib.Math.min.name, Cond.code Lib.Math.min.name Lib.Math.min.code 2 (some .int), Cond.methodLink RX2 72 yX2_liveHoldThatEndsFirst, Cond.instanceMethod yX2_liveHoldThatEndsFirst, Cond.selects RX2 yX2_liveHoldThatEndsFirst yX2_liveHoldThatEndsFirst, Cond.code yX2_liveHoldThatEndsFirst cX2_liveHoldThatEndsFirst 5 (some .int), Cond.methodLink RX2 84 yX4_end, Cond.instanceMethod yX4_end, Cond.selects RX4 yX4_end yX4_end, Cond.code yX4_end cX4_end 1 (some .int), Cond.methodLink RX2 81 yJx4a65c_remove_915e3, Cond.instanceMethod yJx4a65c_remove_915e3, Cond.selects RJx4a65c yJx4a65c_remove_915e3 yJx4a65c_remove_915e3, Cond.code yJx4a65c_remove_915e3 cJx4a65c_remove_915e3 4 (some (.object "java/lang/Object")), Cond.methodLink RJx4a65c 144 yJx4a65c_fastRemove_b59b0, Cond.instanceMethod yJx4a65c_fastRemove_b59b0, Cond.selects RJx4a65c yJx4a65c_fastRemove_b59b0 yJx4a65c_fastRemove_b59b0, Cond.code yJx4a65c_fastRemove_b59b0 cJx4a65c_fastRemove_b59b0 4 none, Cond.fieldLink RJx4a65c 63 "java/util/ArrayList" "modCount" "I", Cond.sameField "java/util/ArrayList" "java/util/AbstractList" "modCount" "I", Cond.methodLink RJx4a65c 112 arraycopyName, Cond.native arraycopyName]
def wsL_law0_r15 : List Cond := [Cond.static arraycopyName, Cond.initialized "java/lang/System", Cond.methodLink RL 89 yX11_take, Cond.instanceMethod yX11_take, Cond.selects RX11 yX11_take yX11_take, Cond.code yX11_take cX11_take 10 (some .boolean), Cond.methodLink RX11 160 yX11_isPlace, Cond.static yX11_isPlace, Cond.code yX11_isPlace cX11_isPlace 2 (some .boolean), Cond.methodLink RX11 163 yX11_live, Cond.instanceMethod yX11_live, Cond.selects RX11 yX11_live yX11_live, Cond.code yX11_live cX11_live 5 (some .int), Cond.methodLink RX11 153 yX11_isHold, Cond.instanceMethod yX11_isHold, Cond.selects RX11 yX11_isHold yX11_isHold, Cond.code yX11_isHold cX11_isHold 4 (some .boolean), Cond.methodLink RX11 156 yX11_isLive, Cond.instanceMethod yX11_isLive, Cond.selects RX11 yX11_isLive yX11_isLive, Cond.code yX11_isLive cX11_isLive 3 (some .boolean), Cond.methodLink RX11 146 yX11_age, Cond.instanceMethod yX11_age, Cond.selects RX11 yX11_age yX11_age]
def wsL_law0_r16 : List Cond := [Cond.code yX11_age cX11_age 3 (some .int), Cond.methodLink RX11 139 yX11_clockOf, Cond.instanceMethod yX11_clockOf, Cond.selects RX11 yX11_clockOf yX11_clockOf, Cond.code yX11_clockOf cX11_clockOf 2 (some .int), Cond.methodLink RX11 150 yX11_liveTime, Cond.static yX11_liveTime, Cond.code yX11_liveTime cX11_liveTime 1 (some .int), Cond.methodLink RL 90 yL_work, Cond.static yL_work, Cond.codeWith yL_work cL_work 4 (some .int) [(0, 9, 12, 13)], Cond.methodLink RL 30 yX10_work, Cond.instanceMethod yX10_work, Cond.selects RX10 yX10_work yX10_work, Cond.code yX10_work cX10_work 3 (some .int), Cond.fieldLink RX10 83 "LeaseGates$Post" "count" "I", Cond.methodLink RX10 86 yX3_settle, Cond.instanceMethod yX3_settle, Cond.selects RX3 yX3_settle yX3_settle, Cond.code yX3_settle cX3_settle 3 none, Cond.fieldLink RX3 35 "LeaseGates$Gate" "birth" "I", Cond.methodLink RX3 39 yX2_settle, Cond.instanceMethod yX2_settle, Cond.selects RX2 yX2_settle yX2_settle]
def wsL_law0_r17 : List Cond := [Cond.code yX2_settle cX2_settle 5 none, Cond.fieldLink RX2 28 "LeaseGates$Desk" "demand" "I", Cond.fieldLink RX2 34 "LeaseGates$Desk" "asks" "I", Cond.fieldLink RX2 37 "LeaseGates$Desk" "open" "Z", Cond.fieldLink RX2 41 "LeaseGates$Desk" "openSince" "I", Cond.classLink RX2 94 RX6, Cond.instantiable RX6 8, Cond.initialized RX6, Cond.methodLink RX2 87 yX2_giveBack, Cond.instanceMethod yX2_giveBack, Cond.selects RX2 yX2_giveBack yX2_giveBack, Cond.code yX2_giveBack cX2_giveBack 8 none, Cond.methodLink RX2 105 yX4_isHalfOver, Cond.instanceMethod yX4_isHalfOver, Cond.selects RX4 yX4_isHalfOver yX4_isHalfOver, Cond.code yX4_isHalfOver cX4_isHalfOver 2 (some .boolean), Cond.methodLink RX2 108 yJx4a65c_set_bcc79, Cond.instanceMethod yJx4a65c_set_bcc79, Cond.selects RJx4a65c yJx4a65c_set_bcc79 yJx4a65c_set_bcc79, Cond.code yJx4a65c_set_bcc79 cJx4a65c_set_bcc79 4 (some (.object "java/lang/Object")), Cond.methodLink RX2 112 yX6_init__, Cond.instanceMethod yX6_init__, Cond.code yX6_init__ cX6_init__ 5 none, Cond.methodLink RX6 3 objectInit]
def wsL_law0_r18 : List Cond := [Cond.fieldLink RX6 9 "LeaseGates$Message" "kind" "I", Cond.fieldLink RX6 15 "LeaseGates$Message" "gate" "I", Cond.fieldLink RX6 18 "LeaseGates$Message" "key" "I", Cond.fieldLink RX6 21 "LeaseGates$Message" "birth" "I", Cond.fieldLink RX6 36 "LeaseGates$Hold" "tokens" "I", Cond.fieldLink RX6 24 "LeaseGates$Message" "tokens" "I", Cond.fieldLink RX6 27 "LeaseGates$Message" "count" "I", Cond.fieldLink RX6 39 "LeaseGates$Hold" "loan" "I", Cond.fieldLink RX6 30 "LeaseGates$Message" "loan" "I", Cond.fieldLink RX6 33 "LeaseGates$Message" "loanLength" "I", Cond.methodLink RX2 99 yX7_send, Cond.instanceMethod yX7_send, Cond.selects RX7 yX7_send yX7_send, Cond.code yX7_send cX7_send 2 none, Cond.fieldLink RX7 17 "LeaseGates$Post" "count" "I", Cond.methodLink RX2 91 yX2_mayAsk, Cond.instanceMethod yX2_mayAsk, Cond.selects RX2 yX2_mayAsk yX2_mayAsk, Cond.code yX2_mayAsk cX2_mayAsk 2 (some .boolean), Cond.methodLink RX2 96 yX6_init, Cond.instanceMethod yX6_init, Cond.code yX6_init cX6_init 6 none, Cond.methodLink RL 93 yX11_work, Cond.instanceMethod yX11_work]
def wsL_law0_r19 : List Cond := [Cond.selects RX11 yX11_work yX11_work, Cond.code yX11_work cX11_work 6 (some .int), Cond.methodLink RX11 173 yX11_giveBack, Cond.instanceMethod yX11_giveBack, Cond.selects RX11 yX11_giveBack yX11_giveBack, Cond.code yX11_giveBack cX11_giveBack 7 (some .int), Cond.methodLink RX11 169 yX11_send, Cond.instanceMethod yX11_send, Cond.selects RX11 yX11_send yX11_send, Cond.code yX11_send cX11_send 9 (some .int), Cond.fieldLink RX11 166 "LeaseGatesModel" "messages" "I", Cond.methodLink RL 94 yL_carry, Cond.static yL_carry, Cond.codeWith yL_carry cL_carry 4 (some .int) [(0, 16, 19, 13)], Cond.methodLink RL 34 yX10_carry, Cond.instanceMethod yX10_carry, Cond.selects RX10 yX10_carry yX10_carry, Cond.code yX10_carry cX10_carry 3 (some .boolean), Cond.fieldLink RX10 94 "LeaseGates$Message" "kind" "I", Cond.fieldLink RX10 107 "LeaseGates$Message" "gate" "I", Cond.methodLink RX10 90 yX10_requireMessage, Cond.instanceMethod yX10_requireMessage, Cond.selects RX10 yX10_requireMessage yX10_requireMessage, Cond.code yX10_requireMessage cX10_requireMessage 3 (some (.object "LeaseGates$Message"))]
def wsL_law0_r20 : List Cond := [Cond.methodLink RX10 189 yX7_find, Cond.instanceMethod yX7_find, Cond.selects RX7 yX7_find yX7_find, Cond.code yX7_find cX7_find 2 (some (.object "LeaseGates$Message")), Cond.methodLink RX10 99 yX8_hearAsk, Cond.instanceMethod yX8_hearAsk, Cond.selects RX8 yX8_hearAsk yX8_hearAsk, Cond.code yX8_hearAsk cX8_hearAsk 4 (some .boolean), Cond.fieldLink RX8 52 "LeaseGates$Message" "birth" "I", Cond.fieldLink RX8 57 "LeaseGates$Message" "gate" "I", Cond.fieldLink RX8 63 "LeaseGates$Message" "key" "I", Cond.fieldLink RX8 70 "LeaseGates$Account" "answer" "LLeaseGates$Message;", Cond.fieldLink RX8 74 "LeaseGates$Message" "count" "I", Cond.methodLink RX8 60 yX8_forgetAnswers, Cond.instanceMethod yX8_forgetAnswers, Cond.selects RX8 yX8_forgetAnswers yX8_forgetAnswers, Cond.code yX8_forgetAnswers cX8_forgetAnswers 3 none, Cond.methodLink RX8 66 yX8_accountOf, Cond.methodLink RX8 77 yX8_answerTo, Cond.instanceMethod yX8_answerTo, Cond.selects RX8 yX8_answerTo yX8_answerTo, Cond.code yX8_answerTo cX8_answerTo 7 (some (.object "LeaseGates$Message")), Cond.fieldLink RX8 87 "LeaseGates$Account" "asked" "Z", Cond.fieldLink RX8 91 "LeaseGates$Account" "askedAt" "I"]
def wsL_law0_r21 : List Cond := [Cond.fieldLink RX8 97 "LeaseGates$Message" "tokens" "I", Cond.fieldLink RX8 100 "LeaseGates$Account" "share" "I", Cond.classLink RX8 53 RX6, Cond.fieldLink RX8 110 "LeaseGates$Root" "loansSoFar" "I", Cond.methodLink RX8 40 yX9_now, Cond.methodLink RX8 94 yX1_free, Cond.instanceMethod yX1_free, Cond.selects RX1 yX1_free yX1_free, Cond.code yX1_free cX1_free 1 (some .int), Cond.methodLink RX8 103 yX8_shareOf, Cond.instanceMethod yX8_shareOf, Cond.selects RX8 yX8_shareOf yX8_shareOf, Cond.code yX8_shareOf cX8_shareOf 7 (some .int), Cond.methodLink RX8 117 yX0_askedOfLate, Cond.instanceMethod yX0_askedOfLate, Cond.selects RX0 yX0_askedOfLate yX0_askedOfLate, Cond.code yX0_askedOfLate cX0_askedOfLate 2 (some .boolean), Cond.fieldLink RX0 13 "LeaseGates$Account" "asked" "Z", Cond.fieldLink RX0 17 "LeaseGates$Account" "askedAt" "I", Cond.methodLink RX8 107 yX6_init_, Cond.instanceMethod yX6_init_, Cond.code yX6_init_ cX6_init_ 5 none, Cond.methodLink RX8 113 yX1_lend, Cond.instanceMethod yX1_lend]
def wsL_law0_r22 : List Cond := [Cond.selects RX1 yX1_lend yX1_lend, Cond.code yX1_lend cX1_lend 4 none, Cond.classLink RX1 57 RX5, Cond.instantiable RX5 3, Cond.initialized RX5, Cond.methodLink RX1 72 yX5_init, Cond.instanceMethod yX5_init, Cond.code yX5_init cX5_init 4 none, Cond.methodLink RX5 1 objectInit, Cond.fieldLink RX5 7 "LeaseGates$Loan" "number" "I", Cond.fieldLink RX5 13 "LeaseGates$Loan" "tokens" "I", Cond.fieldLink RX5 16 "LeaseGates$Loan" "end" "I", Cond.methodLink RX1 75 yJx4a65c_add_9ea2d, Cond.instanceMethod yJx4a65c_add_9ea2d, Cond.selects RJx4a65c yJx4a65c_add_9ea2d yJx4a65c_add_9ea2d, Cond.code yJx4a65c_add_9ea2d cJx4a65c_add_9ea2d 2 (some .boolean), Cond.methodLink RJx4a65c 131 yJx4a65c_add_72be8, Cond.instanceMethod yJx4a65c_add_72be8, Cond.selects RJx4a65c yJx4a65c_add_72be8 yJx4a65c_add_72be8, Cond.code yJx4a65c_add_72be8 cJx4a65c_add_72be8 4 none, Cond.methodLink RJx4a65c 129 yJx4a65c_grow_d5877, Cond.instanceMethod yJx4a65c_grow_d5877, Cond.selects RJx4a65c yJx4a65c_grow_d5877 yJx4a65c_grow_d5877, Cond.code yJx4a65c_grow_d5877 cJx4a65c_grow_d5877 1 (some (.array (.object "java/lang/Object")))]
def wsL_law0_r23 : List Cond := [Cond.methodLink RJx4a65c 69 yJx4a65c_grow_92f84, Cond.instanceMethod yJx4a65c_grow_92f84, Cond.selects RJx4a65c yJx4a65c_grow_92f84 yJx4a65c_grow_92f84, Cond.code yJx4a65c_grow_92f84 cJx4a65c_grow_92f84 4 (some (.array (.object "java/lang/Object"))), Cond.methodLink RJx4a65c 79 Lib.Math.max.name, Cond.static Lib.Math.max.name, Cond.code Lib.Math.max.name Lib.Math.max.code 2 (some .int), Cond.classLink RJx4a65c 7 "java/lang/Object", Cond.methodLink RJx4a65c 73 yJ8_newLength_cabcc, Cond.static yJ8_newLength_cabcc, Cond.initialized RJ8, Cond.code yJ8_newLength_cabcc cJ8_newLength_cabcc 4 (some .int), Cond.methodLink RJ8 194 Lib.Math.max.name, Cond.constant RJ8 200 (2147483639), Cond.methodLink RJ8 201 yJ8_hugeLength_7cf53, Cond.static yJ8_hugeLength_7cf53, Cond.code yJ8_hugeLength_7cf53 cJ8_hugeLength_7cf53 3 (some .int), Cond.methodLink RJx4a65c 66 yJ7_copyOf_1904c, Cond.static yJ7_copyOf_1904c, Cond.initialized RJ7, Cond.code yJ7_copyOf_1904c cJ7_copyOf_1904c 2 (some (.array (.object "java/lang/Object"))), Cond.methodLink RJ7 86 ⟨"java/lang/Object", "getClass", "()Ljava/lang/Class;"⟩, Cond.selects "[Ljava/lang/Object;" ⟨"java/lang/Object", "getClass", "()Ljava/lang/Class;"⟩ ⟨"java/lang/Object", "getClass", "()Ljava/lang/Class;"⟩, Cond.instanceMethod ⟨"java/lang/Object", "getClass", "()Ljava/lang/Class;"⟩]
def wsL_law0_r24 : List Cond := [Cond.native ⟨"java/lang/Object", "getClass", "()Ljava/lang/Class;"⟩, Cond.methodLink RJ7 300 yJ7_copyOf_6403c, Cond.static yJ7_copyOf_6403c, Cond.code yJ7_copyOf_6403c cJ7_copyOf_6403c 4 (some (.array (.object "java/lang/Object"))), Cond.classLink RJ7 110 "[Ljava/lang/Object;", Cond.classLink RJ7 2 "java/lang/Object", Cond.methodLink RJ7 304 Lib.Math.min.name, Cond.methodLink RJ7 150 arraycopyName, Cond.methodLink RX8 81 yX7_send, Cond.methodLink RX10 103 yX8_hearReturn, Cond.instanceMethod yX8_hearReturn, Cond.selects RX8 yX8_hearReturn yX8_hearReturn, Cond.code yX8_hearReturn cX8_hearReturn 2 (some .boolean), Cond.fieldLink RX8 121 "LeaseGates$Message" "loan" "I", Cond.methodLink RX8 124 yX1_bringBack, Cond.instanceMethod yX1_bringBack, Cond.selects RX1 yX1_bringBack yX1_bringBack, Cond.code yX1_bringBack cX1_bringBack 4 (some .boolean), Cond.classLink RX1 57 "LeaseGates$Loan", Cond.fieldLink RX1 79 "LeaseGates$Loan" "number" "I", Cond.methodLink RX1 46 yJx4a65c_size_8abf5, Cond.methodLink RX1 53 yJx4a65c_get_915e3, Cond.methodLink RX1 62 yX1_close, Cond.instanceMethod yX1_close]
def wsL_law0_r25 : List Cond := [Cond.selects RX1 yX1_close yX1_close, Cond.code yX1_close cX1_close 2 none, Cond.fieldLink RX1 66 "LeaseGates$Loan" "tokens" "I", Cond.methodLink RX1 69 yJx4a65c_remove_915e3, Cond.methodLink RX10 110 yX3_hearGrant, Cond.instanceMethod yX3_hearGrant, Cond.selects RX3 yX3_hearGrant yX3_hearGrant, Cond.code yX3_hearGrant cX3_hearGrant 2 (some .boolean), Cond.fieldLink RX3 43 "LeaseGates$Message" "birth" "I", Cond.fieldLink RX3 46 "LeaseGates$Message" "key" "I", Cond.methodLink RX3 49 yX2_accept, Cond.instanceMethod yX2_accept, Cond.selects RX2 yX2_accept yX2_accept, Cond.code yX2_accept cX2_accept 2 (some .boolean), Cond.fieldLink RX2 115 "LeaseGates$Message" "count" "I", Cond.fieldLink RX2 118 "LeaseGates$Message" "tokens" "I", Cond.classLink RX2 55 RX4, Cond.instantiable RX4 4, Cond.methodLink RX2 119 yX4_init, Cond.instanceMethod yX4_init, Cond.code yX4_init cX4_init 3 none, Cond.methodLink RX4 1 objectInit, Cond.fieldLink RX4 7 "LeaseGates$Message" "loan" "I", Cond.fieldLink RX4 13 "LeaseGates$Hold" "loan" "I"]
def wsL_law0_r26 : List Cond := [Cond.fieldLink RX4 19 "LeaseGates$Message" "loanLength" "I", Cond.fieldLink RX4 25 "LeaseGates$Message" "tokens" "I", Cond.fieldLink RX4 28 "LeaseGates$Hold" "tokens" "I", Cond.methodLink RX2 122 yJx4a65c_add_9ea2d, Cond.methodLink RL 96 yX11_carry, Cond.instanceMethod yX11_carry, Cond.selects RX11 yX11_carry yX11_carry, Cond.code yX11_carry cX11_carry 3 (some .boolean), Cond.methodLink RX11 183 yX11_isMessage, Cond.instanceMethod yX11_isMessage, Cond.selects RX11 yX11_isMessage yX11_isMessage, Cond.code yX11_isMessage cX11_isMessage 2 (some .boolean), Cond.methodLink RX11 186 yX11_asks, Cond.instanceMethod yX11_asks, Cond.selects RX11 yX11_asks yX11_asks, Cond.code yX11_asks cX11_asks 7 (some .boolean), Cond.methodLink RX11 176 yX11_answer, Cond.instanceMethod yX11_answer, Cond.selects RX11 yX11_answer yX11_answer, Cond.code yX11_answer cX11_answer 12 none, Cond.methodLink RX11 180 yX11_sendGrant, Cond.instanceMethod yX11_sendGrant, Cond.selects RX11 yX11_sendGrant yX11_sendGrant, Cond.code yX11_sendGrant cX11_sendGrant 5 none]
def wsL_law0_r27 : List Cond := [Cond.methodLink RX11 190 yX11_arrives, Cond.instanceMethod yX11_arrives, Cond.selects RX11 yX11_arrives yX11_arrives, Cond.code yX11_arrives cX11_arrives 5 (some .boolean), Cond.methodLink RX11 193 yX11_returns, Cond.instanceMethod yX11_returns, Cond.selects RX11 yX11_returns yX11_returns, Cond.code yX11_returns cX11_returns 6 (some .boolean), Cond.methodLink RL 97 yL_drop, Cond.static yL_drop, Cond.codeWith yL_drop cL_drop 3 (some .int) [(0, 5, 8, 13)], Cond.methodLink RL 38 yX10_drop, Cond.instanceMethod yX10_drop, Cond.selects RX10 yX10_drop yX10_drop, Cond.code yX10_drop cX10_drop 2 none, Cond.methodLink RX10 113 yX7_discard, Cond.instanceMethod yX7_discard, Cond.selects RX7 yX7_discard yX7_discard, Cond.code yX7_discard cX7_discard 2 none, Cond.methodLink RL 99 yX11_drop, Cond.instanceMethod yX11_drop, Cond.selects RX11 yX11_drop yX11_drop, Cond.code yX11_drop cX11_drop 2 none, Cond.methodLink RL 100 yL_tick]
def wsL_law0_r28 : List Cond := [Cond.static yL_tick, Cond.codeWith yL_tick cL_tick 3 (some .int) [(0, 5, 8, 13)], Cond.methodLink RL 41 yX10_tick, Cond.instanceMethod yX10_tick, Cond.selects RX10 yX10_tick yX10_tick, Cond.code yX10_tick cX10_tick 3 none, Cond.methodLink RX10 116 yX8_advance, Cond.instanceMethod yX8_advance, Cond.selects RX8 yX8_advance yX8_advance, Cond.code yX8_advance cX8_advance 4 none, Cond.methodLink RX8 44 yX9_advance, Cond.instanceMethod yX9_advance, Cond.selects RX9 yX9_advance yX9_advance, Cond.code yX9_advance cX9_advance 2 none, Cond.methodLink RX8 48 yX1_pass, Cond.instanceMethod yX1_pass, Cond.selects RX1 yX1_pass yX1_pass, Cond.code yX1_pass cX1_pass 7 none, Cond.fieldLink RX1 59 "LeaseGates$Loan" "end" "I", Cond.methodLink RX1 50 yX1_loanThatEndsFirst, Cond.instanceMethod yX1_loanThatEndsFirst, Cond.selects RX1 yX1_loanThatEndsFirst yX1_loanThatEndsFirst, Cond.code yX1_loanThatEndsFirst cX1_loanThatEndsFirst 3 (some .int), Cond.methodLink RX10 123 yX9_advance]
def wsL_law0_r29 : List Cond := [Cond.methodLink RL 102 yX11_tick, Cond.instanceMethod yX11_tick, Cond.selects RX11 yX11_tick yX11_tick, Cond.code yX11_tick cX11_tick 4 none, Cond.methodLink RX11 142 yX11_rootGoesOn, Cond.instanceMethod yX11_rootGoesOn, Cond.selects RX11 yX11_rootGoesOn yX11_rootGoesOn, Cond.code yX11_rootGoesOn cX11_rootGoesOn 6 none, Cond.methodLink RX11 132 yX11_nextEnd, Cond.instanceMethod yX11_nextEnd, Cond.selects RX11 yX11_nextEnd yX11_nextEnd, Cond.code yX11_nextEnd cX11_nextEnd 4 (some .int), Cond.methodLink RX11 135 yX11_fillAll, Cond.instanceMethod yX11_fillAll, Cond.selects RX11 yX11_fillAll yX11_fillAll, Cond.code yX11_fillAll cX11_fillAll 3 none, Cond.methodLink RL 103 yL_restart, Cond.static yL_restart, Cond.codeWith yL_restart cL_restart 4 (some .int) [(0, 9, 12, 13)], Cond.methodLink RL 44 yX10_restart, Cond.instanceMethod yX10_restart, Cond.selects RX10 yX10_restart yX10_restart, Cond.code yX10_restart cX10_restart 2 (some .int), Cond.methodLink RX10 124 yX3_startAnew]
def wsL_law0_r30 : List Cond := [Cond.instanceMethod yX3_startAnew, Cond.selects RX3 yX3_startAnew yX3_startAnew, Cond.code yX3_startAnew cX3_startAnew 2 (some .int), Cond.methodLink RX3 53 yX2_clear, Cond.instanceMethod yX2_clear, Cond.selects RX2 yX2_clear yX2_clear, Cond.code yX2_clear cX2_clear 1 none, Cond.methodLink RX2 25 yJx4a65c_clear_da8c8, Cond.instanceMethod yJx4a65c_clear_da8c8, Cond.selects RJx4a65c yJx4a65c_clear_da8c8 yJx4a65c_clear_da8c8, Cond.code yJx4a65c_clear_da8c8 cJx4a65c_clear_da8c8 4 none, Cond.methodLink RL 105 yX11_restart, Cond.instanceMethod yX11_restart, Cond.selects RX11 yX11_restart yX11_restart, Cond.code yX11_restart cX11_restart 3 (some .int), Cond.methodLink RL 106 yL_root, Cond.static yL_root, Cond.codeWith yL_root cL_root 5 (some .int) [(0, 10, 13, 13)], Cond.methodLink RL 47 yX10_root, Cond.instanceMethod yX10_root, Cond.selects RX10 yX10_root yX10_root, Cond.code yX10_root cX10_root 4 (some .int), Cond.fieldLink RX10 128 "LeaseGates$Bucket" "level" "I", Cond.fieldLink RX10 131 "LeaseGates$Bucket" "lent" "I"]
def wsL_law0_r31 : List Cond := [Cond.fieldLink RX10 134 "LeaseGates$Bucket" "loans" "Ljava/util/ArrayList;", Cond.methodLink RX10 138 yJx4a65c_size_8abf5, Cond.methodLink RL 109 yX11_root, Cond.instanceMethod yX11_root, Cond.selects RX11 yX11_root yX11_root, Cond.code yX11_root cX11_root 5 (some .int), Cond.methodLink RL 110 yL_gate, Cond.static yL_gate, Cond.codeWith yL_gate cL_gate 6 (some .int) [(0, 12, 15, 13)], Cond.methodLink RL 51 yX10_gate, Cond.instanceMethod yX10_gate, Cond.selects RX10 yX10_gate yX10_gate, Cond.code yX10_gate cX10_gate 5 (some .int), Cond.fieldLink RX10 143 "LeaseGates$Gate" "desks" "[LLeaseGates$Desk;", Cond.fieldLink RX10 156 "LeaseGates$Desk" "holds" "Ljava/util/ArrayList;", Cond.fieldLink RX10 159 "LeaseGates$Desk" "demand" "I", Cond.fieldLink RX10 162 "LeaseGates$Desk" "use" "I", Cond.fieldLink RX10 165 "LeaseGates$Desk" "asks" "I", Cond.fieldLink RX10 168 "LeaseGates$Desk" "open" "Z", Cond.fieldLink RX10 172 "LeaseGates$Desk" "refusals" "I", Cond.methodLink RX10 147 yX9_now, Cond.methodLink RX10 150 yX2_liveTokens, Cond.methodLink RL 112 yX11_gate, Cond.instanceMethod yX11_gate]
def wsL_law0_r32 : List Cond := [Cond.selects RX11 yX11_gate yX11_gate, Cond.code yX11_gate cX11_gate 7 (some .int), Cond.methodLink RL 113 yL_message, Cond.static yL_message, Cond.codeWith yL_message cL_message 5 (some .int) [(0, 10, 13, 13)], Cond.methodLink RL 55 yX10_message, Cond.instanceMethod yX10_message, Cond.selects RX10 yX10_message yX10_message, Cond.code yX10_message cX10_message 4 (some .int), Cond.fieldLink RX10 175 "LeaseGates$Message" "key" "I", Cond.fieldLink RX10 178 "LeaseGates$Message" "tokens" "I", Cond.fieldLink RX10 181 "LeaseGates$Message" "birth" "I", Cond.fieldLink RX10 184 "LeaseGates$Message" "count" "I", Cond.fieldLink RX10 185 "LeaseGates$Message" "loan" "I", Cond.methodLink RL 115 yX11_message, Cond.instanceMethod yX11_message, Cond.selects RX11 yX11_message yX11_message, Cond.code yX11_message cX11_message 3 (some .int), Cond.methodLink RL 116 yX10_sent, Cond.instanceMethod yX10_sent, Cond.selects RX10 yX10_sent yX10_sent, Cond.code yX10_sent cX10_sent 1 (some .int), Cond.methodLink RL 119 yX11_sent, Cond.instanceMethod yX11_sent]
def wsL_law0_r33 : List Cond := [Cond.selects RX11 yX11_sent yX11_sent, Cond.code yX11_sent cX11_sent 1 (some .int), Cond.methodLink RL 120 yL_clock, Cond.static yL_clock, Cond.codeWith yL_clock cL_clock 4 (some .int) [(0, 9, 12, 13)], Cond.methodLink RL 58 yX10_clock, Cond.instanceMethod yX10_clock, Cond.selects RX10 yX10_clock yX10_clock, Cond.code yX10_clock cX10_clock 2 (some .int), Cond.methodLink RL 122 yX11_clock, Cond.instanceMethod yX11_clock, Cond.selects RX11 yX11_clock yX11_clock, Cond.code yX11_clock cX11_clock 2 (some .int)]
def wsL_law0 : List Cond := (wsL_law0_r1 ++ (wsL_law0_r2 ++ (wsL_law0_r3 ++ (wsL_law0_r4 ++ (wsL_law0_r5 ++ (wsL_law0_r6 ++ (wsL_law0_r7 ++ (wsL_law0_r8 ++ (wsL_law0_r9 ++ (wsL_law0_r10 ++ (wsL_law0_r11 ++ (wsL_law0_r12 ++ (wsL_law0_r13 ++ (wsL_law0_r14 ++ (wsL_law0_r15 ++ (wsL_law0_r16 ++ (wsL_law0_r17 ++ (wsL_law0_r18 ++ (wsL_law0_r19 ++ (wsL_law0_r20 ++ (wsL_law0_r21 ++ (wsL_law0_r22 ++ (wsL_law0_r23 ++ (wsL_law0_r24 ++ (wsL_law0_r25 ++ (wsL_law0_r26 ++ (wsL_law0_r27 ++ (wsL_law0_r28 ++ (wsL_law0_r29 ++ (wsL_law0_r30 ++ (wsL_law0_r31 ++ (wsL_law0_r32 ++ wsL_law0_r33)))))))))))))))))))))))))))))))) ++ wsX100 ++ wsX110 ++ wsX80 ++ wsX70 ++ wsX30 ++ wsX90 ++ wsX10 ++ wsX00 ++ wsJx4a65c0 ++ wsX20 ++ wsX40 ++ wsX60 ++ wsX50 ++ ([] : List Cond)
def wsL_law : List Cond := wsL_law0 ++ (vx_atS RX10 196 "java/lang/IllegalArgumentException" ["java/lang/RuntimeException", "java/lang/Exception"]).filter goodWord
end
section
theorem dX0_init_0 : decode cX0_init 0 = .ok (.aload_n 0, 1) := by decide +kernel
theorem dX0_init_1 : decode cX0_init 1 = .ok (.invokespecial 1, 3) := by decide +kernel
theorem dX0_init_4 : decode cX0_init 4 = .ok (.aload_n 0, 1) := by decide +kernel
theorem dX0_init_5 : decode cX0_init 5 = .ok (.iconst 1, 1) := by decide +kernel
theorem dX0_init_6 : decode cX0_init 6 = .ok (.putfield 7, 3) := by decide +kernel
theorem dX0_init_9 : decode cX0_init 9 = .ok (.return_, 1) := by decide +kernel
theorem dX0_askedOfLate_0 : decode cX0_askedOfLate 0 = .ok (.aload_n 0, 1) := by decide +kernel
theorem dX0_askedOfLate_1 : decode cX0_askedOfLate 1 = .ok (.getfield 13, 3) := by decide +kernel
theorem dX0_askedOfLate_4 : decode cX0_askedOfLate 4 = .ok (.ifCond .eq 19, 3) := by decide +kernel
theorem dX0_askedOfLate_7 : decode cX0_askedOfLate 7 = .ok (.iload_n 1, 1) := by decide +kernel
theorem dX0_askedOfLate_8 : decode cX0_askedOfLate 8 = .ok (.aload_n 0, 1) := by decide +kernel
theorem dX0_askedOfLate_9 : decode cX0_askedOfLate 9 = .ok (.getfield 17, 3) := by decide +kernel
theorem dX0_askedOfLate_12 : decode cX0_askedOfLate 12 = .ok (.isub, 1) := by decide +kernel
theorem dX0_askedOfLate_13 : decode cX0_askedOfLate 13 = .ok (.sipush 1000, 3) := by decide +kernel
theorem dX0_askedOfLate_16 : decode cX0_askedOfLate 16 = .ok (.if_icmp .ge 7, 3) := by decide +kernel
theorem dX0_askedOfLate_19 : decode cX0_askedOfLate 19 = .ok (.iconst 1, 1) := by decide +kernel
theorem dX0_askedOfLate_20 : decode cX0_askedOfLate 20 = .ok (.goto 4, 3) := by decide +kernel
theorem dX0_askedOfLate_23 : decode cX0_askedOfLate 23 = .ok (.iconst 0, 1) := by decide +kernel
theorem dX0_askedOfLate_24 : decode cX0_askedOfLate 24 = .ok (.ireturn, 1) := by decide +kernel
set_option maxRecDepth 20000 in
theorem ggX1_init_Jx4a65c_init_da8c8 : GoodIn wsX1_init wsJx4a65c_init_da8c8 := goodIn_r _ [10, 11, 12, 13, 14, 15, 16, 17, 18, 19, 20, 21, 22, 2, 3, 23, 24, 25] (by decide +kernel) (by decide +kernel)
set_option maxRecDepth 20000 in
theorem gX1_init_Jx4a65c_init_da8c8 : GoodIn wsX1_init (wsJx4a65c_init_da8c8) := ggX1_init_Jx4a65c_init_da8c8
theorem dX1_init_0 : decode cX1_init 0 = .ok (.aload_n 0, 1) := by decide +kernel
theorem dX1_init_1 : decode cX1_init 1 = .ok (.invokespecial 3, 3) := by decide +kernel
theorem dX1_init_4 : decode cX1_init 4 = .ok (.aload_n 0, 1) := by decide +kernel
theorem dX1_init_5 : decode cX1_init 5 = .ok (.new 9, 3) := by decide +kernel
theorem dX1_init_8 : decode cX1_init 8 = .ok (.dup, 1) := by decide +kernel
theorem dX1_init_9 : decode cX1_init 9 = .ok (.invokespecial 11, 3) := by decide +kernel
theorem dX1_init_12 : decode cX1_init 12 = .ok (.putfield 12, 3) := by decide +kernel
theorem dX1_init_15 : decode cX1_init 15 = .ok (.return_, 1) := by decide +kernel
set_option maxRecDepth 20000 in
theorem ggX1_reshape_X1_fill : GoodIn wsX1_reshape wsX1_fill := goodIn_r _ [7, 8, 2, 9, 10, 11, 12, 13, 14, 15, 16, 17, 18, 19, 20, 21, 22, 23] (by decide +kernel) (by decide +kernel)
set_option maxRecDepth 20000 in
theorem gX1_reshape_X1_fill : GoodIn wsX1_reshape (wsV RX1 25 RX1 yX1_fill wsX1_fill) := goodIn_app (goodIn_of _ (by decide +kernel)) ggX1_reshape_X1_fill
theorem dX1_reshape_0 : decode cX1_reshape 0 = .ok (.aload_n 0, 1) := by decide +kernel
theorem dX1_reshape_1 : decode cX1_reshape 1 = .ok (.iload_n 1, 1) := by decide +kernel
theorem dX1_reshape_2 : decode cX1_reshape 2 = .ok (.putfield 18, 3) := by decide +kernel
theorem dX1_reshape_5 : decode cX1_reshape 5 = .ok (.aload_n 0, 1) := by decide +kernel
theorem dX1_reshape_6 : decode cX1_reshape 6 = .ok (.iload_n 2, 1) := by decide +kernel
theorem dX1_reshape_7 : decode cX1_reshape 7 = .ok (.putfield 22, 3) := by decide +kernel
theorem dX1_reshape_10 : decode cX1_reshape 10 = .ok (.aload_n 0, 1) := by decide +kernel
theorem dX1_reshape_11 : decode cX1_reshape 11 = .ok (.lconst 0, 1) := by decide +kernel
theorem dX1_reshape_12 : decode cX1_reshape 12 = .ok (.invokevirtual 25, 3) := by decide +kernel
theorem dX1_reshape_15 : decode cX1_reshape 15 = .ok (.return_, 1) := by decide +kernel
theorem dX1_fill_0 : decode cX1_fill 0 = .ok (.lconst 0, 1) := by decide +kernel
theorem dX1_fill_1 : decode cX1_fill 1 = .ok (.ldc2_w 29, 3) := by decide +kernel
theorem dX1_fill_4 : decode cX1_fill 4 = .ok (.aload_n 0, 1) := by decide +kernel
theorem dX1_fill_5 : decode cX1_fill 5 = .ok (.getfield 22, 3) := by decide +kernel
theorem dX1_fill_8 : decode cX1_fill 8 = .ok (.aload_n 0, 1) := by decide +kernel
theorem dX1_fill_9 : decode cX1_fill 9 = .ok (.getfield 31, 3) := by decide +kernel
theorem dX1_fill_12 : decode cX1_fill 12 = .ok (.isub, 1) := by decide +kernel
theorem dX1_fill_13 : decode cX1_fill 13 = .ok (.i2l, 1) := by decide +kernel
theorem dX1_fill_14 : decode cX1_fill 14 = .ok (.lmul, 1) := by decide +kernel
theorem dX1_fill_15 : decode cX1_fill 15 = .ok (.invokestatic 34, 3) := by decide +kernel
theorem dX1_fill_18 : decode cX1_fill 18 = .ok (.lstore_n 3, 1) := by decide +kernel
theorem dX1_fill_19 : decode cX1_fill 19 = .ok (.aload_n 0, 1) := by decide +kernel
theorem dX1_fill_20 : decode cX1_fill 20 = .ok (.lload_n 3, 1) := by decide +kernel
theorem dX1_fill_21 : decode cX1_fill 21 = .ok (.aload_n 0, 1) := by decide +kernel
theorem dX1_fill_22 : decode cX1_fill 22 = .ok (.getfield 40, 3) := by decide +kernel
theorem dX1_fill_25 : decode cX1_fill 25 = .ok (.i2l, 1) := by decide +kernel
theorem dX1_fill_26 : decode cX1_fill 26 = .ok (.lload_n 1, 1) := by decide +kernel
theorem dX1_fill_27 : decode cX1_fill 27 = .ok (.ladd, 1) := by decide +kernel
theorem dX1_fill_28 : decode cX1_fill 28 = .ok (.invokestatic 43, 3) := by decide +kernel
theorem dX1_fill_31 : decode cX1_fill 31 = .ok (.l2i, 1) := by decide +kernel
theorem dX1_fill_32 : decode cX1_fill 32 = .ok (.putfield 40, 3) := by decide +kernel
theorem dX1_fill_35 : decode cX1_fill 35 = .ok (.return_, 1) := by decide +kernel
set_option maxRecDepth 20000 in
theorem ggX1_pass_Jx4a65c_size_8abf5 : GoodIn wsX1_pass wsJx4a65c_size_8abf5 := goodIn_r _ [9, 10, 76, 77, 78] (by decide +kernel) (by decide +kernel)
set_option maxRecDepth 20000 in
theorem gX1_pass_Jx4a65c_size_8abf5 : GoodIn wsX1_pass (wsV RX1 46 RJx4a65c yJx4a65c_size_8abf5 wsJx4a65c_size_8abf5) := goodIn_app (goodIn_of _ (by decide +kernel)) ggX1_pass_Jx4a65c_size_8abf5
set_option maxRecDepth 20000 in
theorem ggX1_pass_X1_loanThatEndsFirst : GoodIn wsX1_pass wsX1_loanThatEndsFirst := goodIn_r _ [15, 1, 2, 3, 5, 6, 7, 8, 9, 10, 16, 17, 18, 19, 20, 21, 22, 23, 24, 25, 26, 27, 28, 29, 30, 31, 32, 67, 68, 69, 70, 71, 72, 73, 74, 75, 76, 77, 78] (by decide +kernel) (by decide +kernel)
set_option maxRecDepth 20000 in
theorem gX1_pass_X1_loanThatEndsFirst : GoodIn wsX1_pass (wsV RX1 50 RX1 yX1_loanThatEndsFirst wsX1_loanThatEndsFirst) := goodIn_app (goodIn_of _ (by decide +kernel)) ggX1_pass_X1_loanThatEndsFirst
set_option maxRecDepth 20000 in
theorem ggX1_pass_Jx4a65c_get_915e3 : GoodIn wsX1_pass wsJx4a65c_get_915e3 := goodIn_r _ [19, 10, 20, 21, 22, 23, 24, 25, 26, 27, 28, 29, 30, 8, 31, 32, 76, 77, 78] (by decide +kernel) (by decide +kernel)
set_option maxRecDepth 20000 in
theorem gX1_pass_Jx4a65c_get_915e3 : GoodIn wsX1_pass (wsV RX1 53 RJx4a65c yJx4a65c_get_915e3 wsJx4a65c_get_915e3) := goodIn_app (goodIn_of _ (by decide +kernel)) ggX1_pass_Jx4a65c_get_915e3
set_option maxRecDepth 20000 in
theorem ggX1_pass_X1_fill : GoodIn wsX1_pass wsX1_fill := goodIn_r _ [36, 37, 38, 39, 40, 41, 42, 43, 44, 45, 46, 47, 67, 68, 69, 70, 71, 72] (by decide +kernel) (by decide +kernel)
set_option maxRecDepth 20000 in
theorem gX1_pass_X1_fill : GoodIn wsX1_pass (wsV RX1 25 RX1 yX1_fill wsX1_fill) := goodIn_app (goodIn_of _ (by decide +kernel)) ggX1_pass_X1_fill
set_option maxRecDepth 20000 in
theorem ggX1_pass_X1_close : GoodIn wsX1_pass wsX1_close := goodIn_r _ [51, 39, 1, 2, 52, 16, 17, 18, 8, 19, 10, 20, 21, 22, 23, 24, 25, 26, 27, 28, 29, 30, 31, 32, 53, 54, 55, 56, 57, 58, 59, 60, 61, 62, 63, 64, 65, 66, 67, 68, 69, 70, 71, 72, 73, 74, 75, 76, 77, 78] (by decide +kernel) (by decide +kernel)
set_option maxRecDepth 20000 in
theorem gX1_pass_X1_close : GoodIn wsX1_pass (wsV RX1 62 RX1 yX1_close wsX1_close) := goodIn_app (goodIn_of _ (by decide +kernel)) ggX1_pass_X1_close
theorem dX1_pass_0 : decode cX1_pass 0 = .ok (.iload_n 1, 1) := by decide +kernel
theorem dX1_pass_1 : decode cX1_pass 1 = .ok (.istore_n 3, 1) := by decide +kernel
theorem dX1_pass_2 : decode cX1_pass 2 = .ok (.aload_n 0, 1) := by decide +kernel
theorem dX1_pass_3 : decode cX1_pass 3 = .ok (.getfield 12, 3) := by decide +kernel
theorem dX1_pass_6 : decode cX1_pass 6 = .ok (.invokevirtual 46, 3) := by decide +kernel
theorem dX1_pass_9 : decode cX1_pass 9 = .ok (.istore 4, 2) := by decide +kernel
theorem dX1_pass_11 : decode cX1_pass 11 = .ok (.iload 4, 2) := by decide +kernel
theorem dX1_pass_13 : decode cX1_pass 13 = .ok (.ifCond .le 86, 3) := by decide +kernel
theorem dX1_pass_16 : decode cX1_pass 16 = .ok (.aload_n 0, 1) := by decide +kernel
theorem dX1_pass_17 : decode cX1_pass 17 = .ok (.invokevirtual 50, 3) := by decide +kernel
theorem dX1_pass_20 : decode cX1_pass 20 = .ok (.istore 5, 2) := by decide +kernel
theorem dX1_pass_22 : decode cX1_pass 22 = .ok (.iload 5, 2) := by decide +kernel
theorem dX1_pass_24 : decode cX1_pass 24 = .ok (.iconst (-1), 1) := by decide +kernel
theorem dX1_pass_25 : decode cX1_pass 25 = .ok (.if_icmp .eq 74, 3) := by decide +kernel
theorem dX1_pass_28 : decode cX1_pass 28 = .ok (.aload_n 0, 1) := by decide +kernel
theorem dX1_pass_29 : decode cX1_pass 29 = .ok (.getfield 12, 3) := by decide +kernel
theorem dX1_pass_32 : decode cX1_pass 32 = .ok (.iload 5, 2) := by decide +kernel
theorem dX1_pass_34 : decode cX1_pass 34 = .ok (.invokevirtual 53, 3) := by decide +kernel
theorem dX1_pass_37 : decode cX1_pass 37 = .ok (.checkcast 57, 3) := by decide +kernel
theorem dX1_pass_40 : decode cX1_pass 40 = .ok (.getfield 59, 3) := by decide +kernel
theorem dX1_pass_43 : decode cX1_pass 43 = .ok (.iload_n 2, 1) := by decide +kernel
theorem dX1_pass_44 : decode cX1_pass 44 = .ok (.if_icmp .le 6, 3) := by decide +kernel
theorem dX1_pass_47 : decode cX1_pass 47 = .ok (.goto 52, 3) := by decide +kernel
theorem dX1_pass_50 : decode cX1_pass 50 = .ok (.aload_n 0, 1) := by decide +kernel
theorem dX1_pass_51 : decode cX1_pass 51 = .ok (.getfield 12, 3) := by decide +kernel
theorem dX1_pass_54 : decode cX1_pass 54 = .ok (.iload 5, 2) := by decide +kernel
theorem dX1_pass_56 : decode cX1_pass 56 = .ok (.invokevirtual 53, 3) := by decide +kernel
theorem dX1_pass_59 : decode cX1_pass 59 = .ok (.checkcast 57, 3) := by decide +kernel
theorem dX1_pass_62 : decode cX1_pass 62 = .ok (.getfield 59, 3) := by decide +kernel
theorem dX1_pass_65 : decode cX1_pass 65 = .ok (.iconst 1, 1) := by decide +kernel
theorem dX1_pass_66 : decode cX1_pass 66 = .ok (.isub, 1) := by decide +kernel
theorem dX1_pass_67 : decode cX1_pass 67 = .ok (.istore 6, 2) := by decide +kernel
theorem dX1_pass_69 : decode cX1_pass 69 = .ok (.aload_n 0, 1) := by decide +kernel
theorem dX1_pass_70 : decode cX1_pass 70 = .ok (.aload_n 0, 1) := by decide +kernel
theorem dX1_pass_71 : decode cX1_pass 71 = .ok (.getfield 18, 3) := by decide +kernel
theorem dX1_pass_74 : decode cX1_pass 74 = .ok (.i2l, 1) := by decide +kernel
theorem dX1_pass_75 : decode cX1_pass 75 = .ok (.iload 6, 2) := by decide +kernel
theorem dX1_pass_77 : decode cX1_pass 77 = .ok (.iload_n 3, 1) := by decide +kernel
theorem dX1_pass_78 : decode cX1_pass 78 = .ok (.isub, 1) := by decide +kernel
theorem dX1_pass_79 : decode cX1_pass 79 = .ok (.i2l, 1) := by decide +kernel
theorem dX1_pass_80 : decode cX1_pass 80 = .ok (.lmul, 1) := by decide +kernel
theorem dX1_pass_81 : decode cX1_pass 81 = .ok (.invokevirtual 25, 3) := by decide +kernel
theorem dX1_pass_84 : decode cX1_pass 84 = .ok (.aload_n 0, 1) := by decide +kernel
theorem dX1_pass_85 : decode cX1_pass 85 = .ok (.iload 5, 2) := by decide +kernel
theorem dX1_pass_87 : decode cX1_pass 87 = .ok (.invokevirtual 62, 3) := by decide +kernel
theorem dX1_pass_90 : decode cX1_pass 90 = .ok (.iload 6, 2) := by decide +kernel
theorem dX1_pass_92 : decode cX1_pass 92 = .ok (.istore_n 3, 1) := by decide +kernel
theorem dX1_pass_93 : decode cX1_pass 93 = .ok (.iinc 4 (-1), 3) := by decide +kernel
theorem dX1_pass_96 : decode cX1_pass 96 = .ok (.goto (-85), 3) := by decide +kernel
theorem dX1_pass_99 : decode cX1_pass 99 = .ok (.aload_n 0, 1) := by decide +kernel
theorem dX1_pass_100 : decode cX1_pass 100 = .ok (.aload_n 0, 1) := by decide +kernel
theorem dX1_pass_101 : decode cX1_pass 101 = .ok (.getfield 18, 3) := by decide +kernel
theorem dX1_pass_104 : decode cX1_pass 104 = .ok (.i2l, 1) := by decide +kernel
theorem dX1_pass_105 : decode cX1_pass 105 = .ok (.iload_n 2, 1) := by decide +kernel
theorem dX1_pass_106 : decode cX1_pass 106 = .ok (.iload_n 3, 1) := by decide +kernel
theorem dX1_pass_107 : decode cX1_pass 107 = .ok (.isub, 1) := by decide +kernel
theorem dX1_pass_108 : decode cX1_pass 108 = .ok (.i2l, 1) := by decide +kernel
theorem dX1_pass_109 : decode cX1_pass 109 = .ok (.lmul, 1) := by decide +kernel
theorem dX1_pass_110 : decode cX1_pass 110 = .ok (.invokevirtual 25, 3) := by decide +kernel
theorem dX1_pass_113 : decode cX1_pass 113 = .ok (.return_, 1) := by decide +kernel
set_option maxRecDepth 20000 in
theorem ggX1_loanThatEndsFirst_Jx4a65c_size_8abf5 : GoodIn wsX1_loanThatEndsFirst wsJx4a65c_size_8abf5 := goodIn_r _ [8, 9, 36, 37, 38] (by decide +kernel) (by decide +kernel)
set_option maxRecDepth 20000 in
theorem gX1_loanThatEndsFirst_Jx4a65c_size_8abf5 : GoodIn wsX1_loanThatEndsFirst (wsV RX1 46 RJx4a65c yJx4a65c_size_8abf5 wsJx4a65c_size_8abf5) := goodIn_app (goodIn_of _ (by decide +kernel)) ggX1_loanThatEndsFirst_Jx4a65c_size_8abf5
set_option maxRecDepth 20000 in
theorem ggX1_loanThatEndsFirst_Jx4a65c_get_915e3 : GoodIn wsX1_loanThatEndsFirst wsJx4a65c_get_915e3 := goodIn_r _ [13, 9, 14, 15, 16, 17, 18, 19, 20, 21, 22, 23, 24, 7, 25, 26, 36, 37, 38] (by decide +kernel) (by decide +kernel)
set_option maxRecDepth 20000 in
theorem gX1_loanThatEndsFirst_Jx4a65c_get_915e3 : GoodIn wsX1_loanThatEndsFirst (wsV RX1 53 RJx4a65c yJx4a65c_get_915e3 wsJx4a65c_get_915e3) := goodIn_app (goodIn_of _ (by decide +kernel)) ggX1_loanThatEndsFirst_Jx4a65c_get_915e3
theorem dX1_loanThatEndsFirst_0 : decode cX1_loanThatEndsFirst 0 = .ok (.iconst (-1), 1) := by decide +kernel
theorem dX1_loanThatEndsFirst_1 : decode cX1_loanThatEndsFirst 1 = .ok (.istore_n 1, 1) := by decide +kernel
theorem dX1_loanThatEndsFirst_2 : decode cX1_loanThatEndsFirst 2 = .ok (.iconst 0, 1) := by decide +kernel
theorem dX1_loanThatEndsFirst_3 : decode cX1_loanThatEndsFirst 3 = .ok (.istore_n 2, 1) := by decide +kernel
theorem dX1_loanThatEndsFirst_4 : decode cX1_loanThatEndsFirst 4 = .ok (.iload_n 2, 1) := by decide +kernel
theorem dX1_loanThatEndsFirst_5 : decode cX1_loanThatEndsFirst 5 = .ok (.aload_n 0, 1) := by decide +kernel
theorem dX1_loanThatEndsFirst_6 : decode cX1_loanThatEndsFirst 6 = .ok (.getfield 12, 3) := by decide +kernel
theorem dX1_loanThatEndsFirst_9 : decode cX1_loanThatEndsFirst 9 = .ok (.invokevirtual 46, 3) := by decide +kernel
theorem dX1_loanThatEndsFirst_12 : decode cX1_loanThatEndsFirst 12 = .ok (.if_icmp .ge 47, 3) := by decide +kernel
theorem dX1_loanThatEndsFirst_15 : decode cX1_loanThatEndsFirst 15 = .ok (.iload_n 1, 1) := by decide +kernel
theorem dX1_loanThatEndsFirst_16 : decode cX1_loanThatEndsFirst 16 = .ok (.iconst (-1), 1) := by decide +kernel
theorem dX1_loanThatEndsFirst_17 : decode cX1_loanThatEndsFirst 17 = .ok (.if_icmp .eq 34, 3) := by decide +kernel
theorem dX1_loanThatEndsFirst_20 : decode cX1_loanThatEndsFirst 20 = .ok (.aload_n 0, 1) := by decide +kernel
theorem dX1_loanThatEndsFirst_21 : decode cX1_loanThatEndsFirst 21 = .ok (.getfield 12, 3) := by decide +kernel
theorem dX1_loanThatEndsFirst_24 : decode cX1_loanThatEndsFirst 24 = .ok (.iload_n 2, 1) := by decide +kernel
theorem dX1_loanThatEndsFirst_25 : decode cX1_loanThatEndsFirst 25 = .ok (.invokevirtual 53, 3) := by decide +kernel
theorem dX1_loanThatEndsFirst_28 : decode cX1_loanThatEndsFirst 28 = .ok (.checkcast 57, 3) := by decide +kernel
theorem dX1_loanThatEndsFirst_31 : decode cX1_loanThatEndsFirst 31 = .ok (.getfield 59, 3) := by decide +kernel
theorem dX1_loanThatEndsFirst_34 : decode cX1_loanThatEndsFirst 34 = .ok (.aload_n 0, 1) := by decide +kernel
theorem dX1_loanThatEndsFirst_35 : decode cX1_loanThatEndsFirst 35 = .ok (.getfield 12, 3) := by decide +kernel
theorem dX1_loanThatEndsFirst_38 : decode cX1_loanThatEndsFirst 38 = .ok (.iload_n 1, 1) := by decide +kernel
theorem dX1_loanThatEndsFirst_39 : decode cX1_loanThatEndsFirst 39 = .ok (.invokevirtual 53, 3) := by decide +kernel
theorem dX1_loanThatEndsFirst_42 : decode cX1_loanThatEndsFirst 42 = .ok (.checkcast 57, 3) := by decide +kernel
theorem dX1_loanThatEndsFirst_45 : decode cX1_loanThatEndsFirst 45 = .ok (.getfield 59, 3) := by decide +kernel
theorem dX1_loanThatEndsFirst_48 : decode cX1_loanThatEndsFirst 48 = .ok (.if_icmp .ge 5, 3) := by decide +kernel
theorem dX1_loanThatEndsFirst_51 : decode cX1_loanThatEndsFirst 51 = .ok (.iload_n 2, 1) := by decide +kernel
theorem dX1_loanThatEndsFirst_52 : decode cX1_loanThatEndsFirst 52 = .ok (.istore_n 1, 1) := by decide +kernel
theorem dX1_loanThatEndsFirst_53 : decode cX1_loanThatEndsFirst 53 = .ok (.iinc 2 1, 3) := by decide +kernel
theorem dX1_loanThatEndsFirst_56 : decode cX1_loanThatEndsFirst 56 = .ok (.goto (-52), 3) := by decide +kernel
theorem dX1_loanThatEndsFirst_59 : decode cX1_loanThatEndsFirst 59 = .ok (.iload_n 1, 1) := by decide +kernel
theorem dX1_loanThatEndsFirst_60 : decode cX1_loanThatEndsFirst 60 = .ok (.ireturn, 1) := by decide +kernel
set_option maxRecDepth 20000 in
theorem ggX1_close_Jx4a65c_get_915e3 : GoodIn wsX1_close wsJx4a65c_get_915e3 := goodIn_r _ [9, 10, 11, 12, 13, 14, 15, 16, 17, 18, 19, 20, 21, 8, 22, 23, 47, 48, 49] (by decide +kernel) (by decide +kernel)
set_option maxRecDepth 20000 in
theorem gX1_close_Jx4a65c_get_915e3 : GoodIn wsX1_close (wsV RX1 53 RJx4a65c yJx4a65c_get_915e3 wsJx4a65c_get_915e3) := goodIn_app (goodIn_of _ (by decide +kernel)) ggX1_close_Jx4a65c_get_915e3
set_option maxRecDepth 20000 in
theorem ggX1_close_Jx4a65c_remove_915e3 : GoodIn wsX1_close wsJx4a65c_remove_915e3 := goodIn_r _ [27, 10, 23, 11, 12, 13, 14, 15, 16, 17, 18, 28, 29, 30, 8, 31, 32, 33, 34, 35, 36, 37, 47, 48, 49] (by decide +kernel) (by decide +kernel)
set_option maxRecDepth 20000 in
theorem gX1_close_Jx4a65c_remove_915e3 : GoodIn wsX1_close (wsV RX1 69 RJx4a65c yJx4a65c_remove_915e3 wsJx4a65c_remove_915e3) := goodIn_app (goodIn_of _ (by decide +kernel)) ggX1_close_Jx4a65c_remove_915e3
theorem dX1_close_0 : decode cX1_close 0 = .ok (.aload_n 0, 1) := by decide +kernel
theorem dX1_close_1 : decode cX1_close 1 = .ok (.dup, 1) := by decide +kernel
theorem dX1_close_2 : decode cX1_close 2 = .ok (.getfield 31, 3) := by decide +kernel
theorem dX1_close_5 : decode cX1_close 5 = .ok (.aload_n 0, 1) := by decide +kernel
theorem dX1_close_6 : decode cX1_close 6 = .ok (.getfield 12, 3) := by decide +kernel
theorem dX1_close_9 : decode cX1_close 9 = .ok (.iload_n 1, 1) := by decide +kernel
theorem dX1_close_10 : decode cX1_close 10 = .ok (.invokevirtual 53, 3) := by decide +kernel
theorem dX1_close_13 : decode cX1_close 13 = .ok (.checkcast 57, 3) := by decide +kernel
theorem dX1_close_16 : decode cX1_close 16 = .ok (.getfield 66, 3) := by decide +kernel
theorem dX1_close_19 : decode cX1_close 19 = .ok (.isub, 1) := by decide +kernel
theorem dX1_close_20 : decode cX1_close 20 = .ok (.putfield 31, 3) := by decide +kernel
theorem dX1_close_23 : decode cX1_close 23 = .ok (.aload_n 0, 1) := by decide +kernel
theorem dX1_close_24 : decode cX1_close 24 = .ok (.getfield 12, 3) := by decide +kernel
theorem dX1_close_27 : decode cX1_close 27 = .ok (.iload_n 1, 1) := by decide +kernel
theorem dX1_close_28 : decode cX1_close 28 = .ok (.invokevirtual 69, 3) := by decide +kernel
theorem dX1_close_31 : decode cX1_close 31 = .ok (.pop, 1) := by decide +kernel
theorem dX1_close_32 : decode cX1_close 32 = .ok (.return_, 1) := by decide +kernel
theorem dX1_free_0 : decode cX1_free 0 = .ok (.aload_n 0, 1) := by decide +kernel
theorem dX1_free_1 : decode cX1_free 1 = .ok (.getfield 40, 3) := by decide +kernel
theorem dX1_free_4 : decode cX1_free 4 = .ok (.sipush 1000, 3) := by decide +kernel
theorem dX1_free_7 : decode cX1_free 7 = .ok (.idiv, 1) := by decide +kernel
theorem dX1_free_8 : decode cX1_free 8 = .ok (.ireturn, 1) := by decide +kernel
set_option maxRecDepth 20000 in
theorem ggX1_lend_X5_init : GoodIn wsX1_lend wsX5_init := goodIn_r _ [9, 10, 11, 12, 13, 14, 15, 78, 79, 80] (by decide +kernel) (by decide +kernel)
set_option maxRecDepth 20000 in
theorem gX1_lend_X5_init : GoodIn wsX1_lend (wsX5_init) := ggX1_lend_X5_init
set_option maxRecDepth 20000 in
theorem ggX1_lend_Jx4a65c_add_9ea2d : GoodIn wsX1_lend wsJx4a65c_add_9ea2d := goodIn_r _ [20, 21, 22, 23, 24, 25, 26, 27, 19, 28, 29, 30, 31, 32, 33, 34, 35, 36, 37, 38, 39, 40, 41, 42, 43, 44, 45, 46, 47, 48, 49, 50, 51, 52, 53, 54, 55, 56, 57, 58, 59, 60, 61, 62, 63, 64, 65, 66, 67, 68, 69, 70, 71, 81, 82, 83] (by decide +kernel) (by decide +kernel)
set_option maxRecDepth 20000 in
theorem gX1_lend_Jx4a65c_add_9ea2d : GoodIn wsX1_lend (wsV RX1 75 RJx4a65c yJx4a65c_add_9ea2d wsJx4a65c_add_9ea2d) := goodIn_app (goodIn_of _ (by decide +kernel)) ggX1_lend_Jx4a65c_add_9ea2d
theorem dX1_lend_0 : decode cX1_lend 0 = .ok (.aload_n 0, 1) := by decide +kernel
theorem dX1_lend_1 : decode cX1_lend 1 = .ok (.dup, 1) := by decide +kernel
theorem dX1_lend_2 : decode cX1_lend 2 = .ok (.getfield 40, 3) := by decide +kernel
theorem dX1_lend_5 : decode cX1_lend 5 = .ok (.sipush 1000, 3) := by decide +kernel
theorem dX1_lend_8 : decode cX1_lend 8 = .ok (.iload_n 2, 1) := by decide +kernel
theorem dX1_lend_9 : decode cX1_lend 9 = .ok (.imul, 1) := by decide +kernel
theorem dX1_lend_10 : decode cX1_lend 10 = .ok (.isub, 1) := by decide +kernel
theorem dX1_lend_11 : decode cX1_lend 11 = .ok (.putfield 40, 3) := by decide +kernel
theorem dX1_lend_14 : decode cX1_lend 14 = .ok (.aload_n 0, 1) := by decide +kernel
theorem dX1_lend_15 : decode cX1_lend 15 = .ok (.dup, 1) := by decide +kernel
theorem dX1_lend_16 : decode cX1_lend 16 = .ok (.getfield 31, 3) := by decide +kernel
theorem dX1_lend_19 : decode cX1_lend 19 = .ok (.iload_n 2, 1) := by decide +kernel
theorem dX1_lend_20 : decode cX1_lend 20 = .ok (.iadd, 1) := by decide +kernel
theorem dX1_lend_21 : decode cX1_lend 21 = .ok (.putfield 31, 3) := by decide +kernel
theorem dX1_lend_24 : decode cX1_lend 24 = .ok (.aload_n 0, 1) := by decide +kernel
theorem dX1_lend_25 : decode cX1_lend 25 = .ok (.getfield 12, 3) := by decide +kernel
theorem dX1_lend_28 : decode cX1_lend 28 = .ok (.new 57, 3) := by decide +kernel
theorem dX1_lend_31 : decode cX1_lend 31 = .ok (.dup, 1) := by decide +kernel
theorem dX1_lend_32 : decode cX1_lend 32 = .ok (.iload_n 1, 1) := by decide +kernel
theorem dX1_lend_33 : decode cX1_lend 33 = .ok (.iload_n 2, 1) := by decide +kernel
theorem dX1_lend_34 : decode cX1_lend 34 = .ok (.iload_n 3, 1) := by decide +kernel
theorem dX1_lend_35 : decode cX1_lend 35 = .ok (.invokespecial 72, 3) := by decide +kernel
theorem dX1_lend_38 : decode cX1_lend 38 = .ok (.invokevirtual 75, 3) := by decide +kernel
theorem dX1_lend_41 : decode cX1_lend 41 = .ok (.pop, 1) := by decide +kernel
theorem dX1_lend_42 : decode cX1_lend 42 = .ok (.return_, 1) := by decide +kernel
set_option maxRecDepth 20000 in
theorem ggX1_bringBack_Jx4a65c_size_8abf5 : GoodIn wsX1_bringBack wsJx4a65c_size_8abf5 := goodIn_r _ [9, 10, 71, 72, 73] (by decide +kernel) (by decide +kernel)
set_option maxRecDepth 20000 in
theorem gX1_bringBack_Jx4a65c_size_8abf5 : GoodIn wsX1_bringBack (wsV RX1 46 RJx4a65c yJx4a65c_size_8abf5 wsJx4a65c_size_8abf5) := goodIn_app (goodIn_of _ (by decide +kernel)) ggX1_bringBack_Jx4a65c_size_8abf5
set_option maxRecDepth 20000 in
theorem ggX1_bringBack_Jx4a65c_get_915e3 : GoodIn wsX1_bringBack wsJx4a65c_get_915e3 := goodIn_r _ [14, 10, 15, 16, 17, 18, 19, 20, 21, 22, 23, 24, 25, 8, 26, 27, 71, 72, 73] (by decide +kernel) (by decide +kernel)
set_option maxRecDepth 20000 in
theorem gX1_bringBack_Jx4a65c_get_915e3 : GoodIn wsX1_bringBack (wsV RX1 53 RJx4a65c yJx4a65c_get_915e3 wsJx4a65c_get_915e3) := goodIn_app (goodIn_of _ (by decide +kernel)) ggX1_bringBack_Jx4a65c_get_915e3
set_option maxRecDepth 20000 in
theorem ggX1_bringBack_X1_close : GoodIn wsX1_bringBack wsX1_close := goodIn_r _ [32, 33, 1, 2, 34, 11, 12, 13, 8, 14, 10, 15, 16, 17, 18, 19, 20, 21, 22, 23, 24, 25, 26, 27, 35, 36, 37, 38, 39, 40, 41, 42, 43, 44, 45, 46, 47, 48, 62, 63, 64, 65, 66, 67, 68, 69, 70, 71, 72, 73] (by decide +kernel) (by decide +kernel)
set_option maxRecDepth 20000 in
theorem gX1_bringBack_X1_close : GoodIn wsX1_bringBack (wsV RX1 62 RX1 yX1_close wsX1_close) := goodIn_app (goodIn_of _ (by decide +kernel)) ggX1_bringBack_X1_close
set_option maxRecDepth 20000 in
theorem ggX1_bringBack_X1_fill : GoodIn wsX1_bringBack wsX1_fill := goodIn_r _ [52, 4, 53, 33, 54, 55, 56, 57, 58, 59, 60, 61, 62, 63, 64, 65, 66, 67] (by decide +kernel) (by decide +kernel)
set_option maxRecDepth 20000 in
theorem gX1_bringBack_X1_fill : GoodIn wsX1_bringBack (wsV RX1 25 RX1 yX1_fill wsX1_fill) := goodIn_app (goodIn_of _ (by decide +kernel)) ggX1_bringBack_X1_fill
theorem dX1_bringBack_0 : decode cX1_bringBack 0 = .ok (.iconst 0, 1) := by decide +kernel
theorem dX1_bringBack_1 : decode cX1_bringBack 1 = .ok (.istore_n 3, 1) := by decide +kernel
theorem dX1_bringBack_2 : decode cX1_bringBack 2 = .ok (.iload_n 3, 1) := by decide +kernel
theorem dX1_bringBack_3 : decode cX1_bringBack 3 = .ok (.aload_n 0, 1) := by decide +kernel
theorem dX1_bringBack_4 : decode cX1_bringBack 4 = .ok (.getfield 12, 3) := by decide +kernel
theorem dX1_bringBack_7 : decode cX1_bringBack 7 = .ok (.invokevirtual 46, 3) := by decide +kernel
theorem dX1_bringBack_10 : decode cX1_bringBack 10 = .ok (.if_icmp .ge 44, 3) := by decide +kernel
theorem dX1_bringBack_13 : decode cX1_bringBack 13 = .ok (.aload_n 0, 1) := by decide +kernel
theorem dX1_bringBack_14 : decode cX1_bringBack 14 = .ok (.getfield 12, 3) := by decide +kernel
theorem dX1_bringBack_17 : decode cX1_bringBack 17 = .ok (.iload_n 3, 1) := by decide +kernel
theorem dX1_bringBack_18 : decode cX1_bringBack 18 = .ok (.invokevirtual 53, 3) := by decide +kernel
theorem dX1_bringBack_21 : decode cX1_bringBack 21 = .ok (.checkcast 57, 3) := by decide +kernel
theorem dX1_bringBack_24 : decode cX1_bringBack 24 = .ok (.getfield 79, 3) := by decide +kernel
theorem dX1_bringBack_27 : decode cX1_bringBack 27 = .ok (.iload_n 1, 1) := by decide +kernel
theorem dX1_bringBack_28 : decode cX1_bringBack 28 = .ok (.if_icmp .ne 20, 3) := by decide +kernel
theorem dX1_bringBack_31 : decode cX1_bringBack 31 = .ok (.aload_n 0, 1) := by decide +kernel
theorem dX1_bringBack_32 : decode cX1_bringBack 32 = .ok (.iload_n 3, 1) := by decide +kernel
theorem dX1_bringBack_33 : decode cX1_bringBack 33 = .ok (.invokevirtual 62, 3) := by decide +kernel
theorem dX1_bringBack_36 : decode cX1_bringBack 36 = .ok (.aload_n 0, 1) := by decide +kernel
theorem dX1_bringBack_37 : decode cX1_bringBack 37 = .ok (.ldc2_w 29, 3) := by decide +kernel
theorem dX1_bringBack_40 : decode cX1_bringBack 40 = .ok (.iload_n 2, 1) := by decide +kernel
theorem dX1_bringBack_41 : decode cX1_bringBack 41 = .ok (.i2l, 1) := by decide +kernel
theorem dX1_bringBack_42 : decode cX1_bringBack 42 = .ok (.lmul, 1) := by decide +kernel
theorem dX1_bringBack_43 : decode cX1_bringBack 43 = .ok (.invokevirtual 25, 3) := by decide +kernel
theorem dX1_bringBack_46 : decode cX1_bringBack 46 = .ok (.iconst 1, 1) := by decide +kernel
theorem dX1_bringBack_47 : decode cX1_bringBack 47 = .ok (.ireturn, 1) := by decide +kernel
theorem dX1_bringBack_48 : decode cX1_bringBack 48 = .ok (.iinc 3 1, 3) := by decide +kernel
theorem dX1_bringBack_51 : decode cX1_bringBack 51 = .ok (.goto (-49), 3) := by decide +kernel
theorem dX1_bringBack_54 : decode cX1_bringBack 54 = .ok (.iconst 0, 1) := by decide +kernel
theorem dX1_bringBack_55 : decode cX1_bringBack 55 = .ok (.ireturn, 1) := by decide +kernel
set_option maxRecDepth 20000 in
theorem ggX2_init_Jx4a65c_init_da8c8 : GoodIn wsX2_init wsJx4a65c_init_da8c8 := goodIn_r _ [12, 13, 14, 15, 16, 17, 18, 19, 20, 21, 22, 23, 24, 2, 3, 25, 26, 27] (by decide +kernel) (by decide +kernel)
set_option maxRecDepth 20000 in
theorem gX2_init_Jx4a65c_init_da8c8 : GoodIn wsX2_init (wsJx4a65c_init_da8c8) := ggX2_init_Jx4a65c_init_da8c8
theorem dX2_init_0 : decode cX2_init 0 = .ok (.aload_n 0, 1) := by decide +kernel
theorem dX2_init_1 : decode cX2_init 1 = .ok (.invokespecial 3, 3) := by decide +kernel
theorem dX2_init_4 : decode cX2_init 4 = .ok (.aload_n 0, 1) := by decide +kernel
theorem dX2_init_5 : decode cX2_init 5 = .ok (.new 9, 3) := by decide +kernel
theorem dX2_init_8 : decode cX2_init 8 = .ok (.dup, 1) := by decide +kernel
theorem dX2_init_9 : decode cX2_init 9 = .ok (.invokespecial 11, 3) := by decide +kernel
theorem dX2_init_12 : decode cX2_init 12 = .ok (.putfield 12, 3) := by decide +kernel
theorem dX2_init_15 : decode cX2_init 15 = .ok (.aload_n 0, 1) := by decide +kernel
theorem dX2_init_16 : decode cX2_init 16 = .ok (.iload_n 1, 1) := by decide +kernel
theorem dX2_init_17 : decode cX2_init 17 = .ok (.putfield 18, 3) := by decide +kernel
theorem dX2_init_20 : decode cX2_init 20 = .ok (.aload_n 0, 1) := by decide +kernel
theorem dX2_init_21 : decode cX2_init 21 = .ok (.iload_n 2, 1) := by decide +kernel
theorem dX2_init_22 : decode cX2_init 22 = .ok (.putfield 22, 3) := by decide +kernel
theorem dX2_init_25 : decode cX2_init 25 = .ok (.return_, 1) := by decide +kernel
set_option maxRecDepth 20000 in
theorem ggX2_clear_Jx4a65c_clear_da8c8 : GoodIn wsX2_clear wsJx4a65c_clear_da8c8 := goodIn_r _ [12, 13, 14, 15, 16, 26, 27, 28] (by decide +kernel) (by decide +kernel)
set_option maxRecDepth 20000 in
theorem gX2_clear_Jx4a65c_clear_da8c8 : GoodIn wsX2_clear (wsV RX2 25 RJx4a65c yJx4a65c_clear_da8c8 wsJx4a65c_clear_da8c8) := goodIn_app (goodIn_of _ (by decide +kernel)) ggX2_clear_Jx4a65c_clear_da8c8
theorem dX2_clear_0 : decode cX2_clear 0 = .ok (.aload_n 0, 1) := by decide +kernel
theorem dX2_clear_1 : decode cX2_clear 1 = .ok (.getfield 12, 3) := by decide +kernel
theorem dX2_clear_4 : decode cX2_clear 4 = .ok (.invokevirtual 25, 3) := by decide +kernel
theorem dX2_clear_7 : decode cX2_clear 7 = .ok (.aload_n 0, 1) := by decide +kernel
theorem dX2_clear_8 : decode cX2_clear 8 = .ok (.iconst 0, 1) := by decide +kernel
theorem dX2_clear_9 : decode cX2_clear 9 = .ok (.putfield 28, 3) := by decide +kernel
theorem dX2_clear_12 : decode cX2_clear 12 = .ok (.aload_n 0, 1) := by decide +kernel
theorem dX2_clear_13 : decode cX2_clear 13 = .ok (.iconst 0, 1) := by decide +kernel
theorem dX2_clear_14 : decode cX2_clear 14 = .ok (.putfield 31, 3) := by decide +kernel
theorem dX2_clear_17 : decode cX2_clear 17 = .ok (.aload_n 0, 1) := by decide +kernel
theorem dX2_clear_18 : decode cX2_clear 18 = .ok (.iconst 0, 1) := by decide +kernel
theorem dX2_clear_19 : decode cX2_clear 19 = .ok (.putfield 34, 3) := by decide +kernel
theorem dX2_clear_22 : decode cX2_clear 22 = .ok (.aload_n 0, 1) := by decide +kernel
theorem dX2_clear_23 : decode cX2_clear 23 = .ok (.iconst 0, 1) := by decide +kernel
theorem dX2_clear_24 : decode cX2_clear 24 = .ok (.putfield 37, 3) := by decide +kernel
theorem dX2_clear_27 : decode cX2_clear 27 = .ok (.aload_n 0, 1) := by decide +kernel
theorem dX2_clear_28 : decode cX2_clear 28 = .ok (.iconst 0, 1) := by decide +kernel
theorem dX2_clear_29 : decode cX2_clear 29 = .ok (.putfield 41, 3) := by decide +kernel
theorem dX2_clear_32 : decode cX2_clear 32 = .ok (.aload_n 0, 1) := by decide +kernel
theorem dX2_clear_33 : decode cX2_clear 33 = .ok (.iconst 0, 1) := by decide +kernel
theorem dX2_clear_34 : decode cX2_clear 34 = .ok (.putfield 44, 3) := by decide +kernel
theorem dX2_clear_37 : decode cX2_clear 37 = .ok (.return_, 1) := by decide +kernel
set_option maxRecDepth 20000 in
theorem ggX2_liveTokens_Jx4a65c_size_8abf5 : GoodIn wsX2_liveTokens wsJx4a65c_size_8abf5 := goodIn_r _ [8, 9, 47, 48, 49] (by decide +kernel) (by decide +kernel)
set_option maxRecDepth 20000 in
theorem gX2_liveTokens_Jx4a65c_size_8abf5 : GoodIn wsX2_liveTokens (wsV RX2 47 RJx4a65c yJx4a65c_size_8abf5 wsJx4a65c_size_8abf5) := goodIn_app (goodIn_of _ (by decide +kernel)) ggX2_liveTokens_Jx4a65c_size_8abf5
set_option maxRecDepth 20000 in
theorem ggX2_liveTokens_Jx4a65c_get_915e3 : GoodIn wsX2_liveTokens wsJx4a65c_get_915e3 := goodIn_r _ [13, 9, 14, 15, 16, 17, 18, 19, 20, 21, 22, 23, 24, 7, 25, 26, 47, 48, 49] (by decide +kernel) (by decide +kernel)
set_option maxRecDepth 20000 in
theorem gX2_liveTokens_Jx4a65c_get_915e3 : GoodIn wsX2_liveTokens (wsV RX2 51 RJx4a65c yJx4a65c_get_915e3 wsJx4a65c_get_915e3) := goodIn_app (goodIn_of _ (by decide +kernel)) ggX2_liveTokens_Jx4a65c_get_915e3
set_option maxRecDepth 20000 in
theorem ggX2_liveTokens_X4_isLive : GoodIn wsX2_liveTokens wsX4_isLive := goodIn_r _ [31, 32, 33, 43, 44, 45, 46] (by decide +kernel) (by decide +kernel)
set_option maxRecDepth 20000 in
theorem gX2_liveTokens_X4_isLive : GoodIn wsX2_liveTokens (wsV RX2 57 RX4 yX4_isLive wsX4_isLive) := goodIn_app (goodIn_of _ (by decide +kernel)) ggX2_liveTokens_X4_isLive
theorem dX2_liveTokens_0 : decode cX2_liveTokens 0 = .ok (.iconst 0, 1) := by decide +kernel
theorem dX2_liveTokens_1 : decode cX2_liveTokens 1 = .ok (.istore_n 2, 1) := by decide +kernel
theorem dX2_liveTokens_2 : decode cX2_liveTokens 2 = .ok (.iconst 0, 1) := by decide +kernel
theorem dX2_liveTokens_3 : decode cX2_liveTokens 3 = .ok (.istore_n 3, 1) := by decide +kernel
theorem dX2_liveTokens_4 : decode cX2_liveTokens 4 = .ok (.iload_n 3, 1) := by decide +kernel
theorem dX2_liveTokens_5 : decode cX2_liveTokens 5 = .ok (.aload_n 0, 1) := by decide +kernel
theorem dX2_liveTokens_6 : decode cX2_liveTokens 6 = .ok (.getfield 12, 3) := by decide +kernel
theorem dX2_liveTokens_9 : decode cX2_liveTokens 9 = .ok (.invokevirtual 47, 3) := by decide +kernel
theorem dX2_liveTokens_12 : decode cX2_liveTokens 12 = .ok (.if_icmp .ge 39, 3) := by decide +kernel
theorem dX2_liveTokens_15 : decode cX2_liveTokens 15 = .ok (.aload_n 0, 1) := by decide +kernel
theorem dX2_liveTokens_16 : decode cX2_liveTokens 16 = .ok (.getfield 12, 3) := by decide +kernel
theorem dX2_liveTokens_19 : decode cX2_liveTokens 19 = .ok (.iload_n 3, 1) := by decide +kernel
theorem dX2_liveTokens_20 : decode cX2_liveTokens 20 = .ok (.invokevirtual 51, 3) := by decide +kernel
theorem dX2_liveTokens_23 : decode cX2_liveTokens 23 = .ok (.checkcast 55, 3) := by decide +kernel
theorem dX2_liveTokens_26 : decode cX2_liveTokens 26 = .ok (.astore 4, 2) := by decide +kernel
theorem dX2_liveTokens_28 : decode cX2_liveTokens 28 = .ok (.aload 4, 2) := by decide +kernel
theorem dX2_liveTokens_30 : decode cX2_liveTokens 30 = .ok (.iload_n 1, 1) := by decide +kernel
theorem dX2_liveTokens_31 : decode cX2_liveTokens 31 = .ok (.invokevirtual 57, 3) := by decide +kernel
theorem dX2_liveTokens_34 : decode cX2_liveTokens 34 = .ok (.ifCond .eq 11, 3) := by decide +kernel
theorem dX2_liveTokens_37 : decode cX2_liveTokens 37 = .ok (.iload_n 2, 1) := by decide +kernel
theorem dX2_liveTokens_38 : decode cX2_liveTokens 38 = .ok (.aload 4, 2) := by decide +kernel
theorem dX2_liveTokens_40 : decode cX2_liveTokens 40 = .ok (.getfield 61, 3) := by decide +kernel
theorem dX2_liveTokens_43 : decode cX2_liveTokens 43 = .ok (.iadd, 1) := by decide +kernel
theorem dX2_liveTokens_44 : decode cX2_liveTokens 44 = .ok (.istore_n 2, 1) := by decide +kernel
theorem dX2_liveTokens_45 : decode cX2_liveTokens 45 = .ok (.iinc 3 1, 3) := by decide +kernel
theorem dX2_liveTokens_48 : decode cX2_liveTokens 48 = .ok (.goto (-44), 3) := by decide +kernel
theorem dX2_liveTokens_51 : decode cX2_liveTokens 51 = .ok (.iload_n 2, 1) := by decide +kernel
theorem dX2_liveTokens_52 : decode cX2_liveTokens 52 = .ok (.ireturn, 1) := by decide +kernel
set_option maxRecDepth 20000 in
theorem ggX2_spend_X2_liveTokens : GoodIn wsX2_spend wsX2_liveTokens := goodIn_r _ [7, 8, 9, 10, 11, 12, 13, 14, 15, 16, 17, 18, 19, 20, 21, 22, 23, 24, 25, 26, 27, 28, 29, 30, 31, 32, 33, 34, 35, 36, 37, 38, 39, 40, 71, 72, 73, 74, 75, 76, 77, 78, 79, 80, 81, 82, 83, 84, 85, 86] (by decide +kernel) (by decide +kernel)
set_option maxRecDepth 20000 in
theorem gX2_spend_X2_liveTokens : GoodIn wsX2_spend (wsV RX2 64 RX2 yX2_liveTokens wsX2_liveTokens) := goodIn_app (goodIn_of _ (by decide +kernel)) ggX2_spend_X2_liveTokens
set_option maxRecDepth 20000 in
theorem ggX2_spend_X2_takeOut : GoodIn wsX2_spend wsX2_takeOut := goodIn_r _ [44, 8, 9, 10, 45, 46, 47, 48, 11, 12, 13, 14, 15, 16, 49, 50, 51, 6, 52, 17, 18, 19, 20, 21, 22, 23, 24, 25, 26, 27, 28, 29, 30, 31, 32, 33, 34, 35, 36, 37, 38, 39, 40, 53, 54, 55, 56, 57, 58, 59, 60, 61, 62, 63, 64, 65, 66, 67, 68, 69, 70, 71, 72, 73, 74, 75, 76, 77, 78, 79, 80, 81, 82, 83, 84, 85, 86] (by decide +kernel) (by decide +kernel)
set_option maxRecDepth 20000 in
theorem gX2_spend_X2_takeOut : GoodIn wsX2_spend (wsV RX2 68 RX2 yX2_takeOut wsX2_takeOut) := goodIn_app (goodIn_of _ (by decide +kernel)) ggX2_spend_X2_takeOut
theorem dX2_spend_0 : decode cX2_spend 0 = .ok (.aload_n 0, 1) := by decide +kernel
theorem dX2_spend_1 : decode cX2_spend 1 = .ok (.dup, 1) := by decide +kernel
theorem dX2_spend_2 : decode cX2_spend 2 = .ok (.getfield 31, 3) := by decide +kernel
theorem dX2_spend_5 : decode cX2_spend 5 = .ok (.iload_n 1, 1) := by decide +kernel
theorem dX2_spend_6 : decode cX2_spend 6 = .ok (.iadd, 1) := by decide +kernel
theorem dX2_spend_7 : decode cX2_spend 7 = .ok (.putfield 31, 3) := by decide +kernel
theorem dX2_spend_10 : decode cX2_spend 10 = .ok (.aload_n 0, 1) := by decide +kernel
theorem dX2_spend_11 : decode cX2_spend 11 = .ok (.iload_n 2, 1) := by decide +kernel
theorem dX2_spend_12 : decode cX2_spend 12 = .ok (.invokevirtual 64, 3) := by decide +kernel
theorem dX2_spend_15 : decode cX2_spend 15 = .ok (.iload_n 1, 1) := by decide +kernel
theorem dX2_spend_16 : decode cX2_spend 16 = .ok (.if_icmp .ge 15, 3) := by decide +kernel
theorem dX2_spend_19 : decode cX2_spend 19 = .ok (.aload_n 0, 1) := by decide +kernel
theorem dX2_spend_20 : decode cX2_spend 20 = .ok (.dup, 1) := by decide +kernel
theorem dX2_spend_21 : decode cX2_spend 21 = .ok (.getfield 44, 3) := by decide +kernel
theorem dX2_spend_24 : decode cX2_spend 24 = .ok (.iconst 1, 1) := by decide +kernel
theorem dX2_spend_25 : decode cX2_spend 25 = .ok (.iadd, 1) := by decide +kernel
theorem dX2_spend_26 : decode cX2_spend 26 = .ok (.putfield 44, 3) := by decide +kernel
theorem dX2_spend_29 : decode cX2_spend 29 = .ok (.iconst 0, 1) := by decide +kernel
theorem dX2_spend_30 : decode cX2_spend 30 = .ok (.ireturn, 1) := by decide +kernel
theorem dX2_spend_31 : decode cX2_spend 31 = .ok (.aload_n 0, 1) := by decide +kernel
theorem dX2_spend_32 : decode cX2_spend 32 = .ok (.iconst 0, 1) := by decide +kernel
theorem dX2_spend_33 : decode cX2_spend 33 = .ok (.putfield 44, 3) := by decide +kernel
theorem dX2_spend_36 : decode cX2_spend 36 = .ok (.aload_n 0, 1) := by decide +kernel
theorem dX2_spend_37 : decode cX2_spend 37 = .ok (.iload_n 1, 1) := by decide +kernel
theorem dX2_spend_38 : decode cX2_spend 38 = .ok (.iload_n 2, 1) := by decide +kernel
theorem dX2_spend_39 : decode cX2_spend 39 = .ok (.invokevirtual 68, 3) := by decide +kernel
theorem dX2_spend_42 : decode cX2_spend 42 = .ok (.iconst 1, 1) := by decide +kernel
theorem dX2_spend_43 : decode cX2_spend 43 = .ok (.ireturn, 1) := by decide +kernel
set_option maxRecDepth 20000 in
theorem ggX2_takeOut_Jx4a65c_size_8abf5 : GoodIn wsX2_takeOut wsJx4a65c_size_8abf5 := goodIn_r _ [12, 13, 74, 75, 76] (by decide +kernel) (by decide +kernel)
set_option maxRecDepth 20000 in
theorem gX2_takeOut_Jx4a65c_size_8abf5 : GoodIn wsX2_takeOut (wsV RX2 47 RJx4a65c yJx4a65c_size_8abf5 wsJx4a65c_size_8abf5) := goodIn_app (goodIn_of _ (by decide +kernel)) ggX2_takeOut_Jx4a65c_size_8abf5
set_option maxRecDepth 20000 in
theorem ggX2_takeOut_X2_liveHoldThatEndsFirst : GoodIn wsX2_takeOut wsX2_liveHoldThatEndsFirst := goodIn_r _ [18, 1, 2, 8, 9, 10, 11, 12, 13, 19, 20, 21, 22, 23, 24, 25, 26, 27, 28, 29, 30, 31, 32, 33, 34, 35, 36, 37, 38, 39, 40, 41, 42, 43, 44, 45, 46, 61, 62, 63, 64, 65, 66, 67, 68, 69, 74, 75, 76, 70, 71, 72, 73] (by decide +kernel) (by decide +kernel)
set_option maxRecDepth 20000 in
theorem gX2_takeOut_X2_liveHoldThatEndsFirst : GoodIn wsX2_takeOut (wsV RX2 72 RX2 yX2_liveHoldThatEndsFirst wsX2_liveHoldThatEndsFirst) := goodIn_app (goodIn_of _ (by decide +kernel)) ggX2_takeOut_X2_liveHoldThatEndsFirst
set_option maxRecDepth 20000 in
theorem ggX2_takeOut_Jx4a65c_get_915e3 : GoodIn wsX2_takeOut wsJx4a65c_get_915e3 := goodIn_r _ [22, 13, 23, 24, 25, 26, 27, 28, 29, 30, 31, 32, 33, 11, 34, 35, 74, 75, 76] (by decide +kernel) (by decide +kernel)
set_option maxRecDepth 20000 in
theorem gX2_takeOut_Jx4a65c_get_915e3 : GoodIn wsX2_takeOut (wsV RX2 51 RJx4a65c yJx4a65c_get_915e3 wsJx4a65c_get_915e3) := goodIn_app (goodIn_of _ (by decide +kernel)) ggX2_takeOut_Jx4a65c_get_915e3
set_option maxRecDepth 20000 in
theorem ggX2_takeOut_Jx4a65c_remove_915e3 : GoodIn wsX2_takeOut wsJx4a65c_remove_915e3 := goodIn_r _ [50, 13, 35, 23, 24, 25, 26, 27, 28, 29, 30, 51, 52, 53, 11, 54, 55, 56, 57, 58, 59, 60, 74, 75, 76] (by decide +kernel) (by decide +kernel)
set_option maxRecDepth 20000 in
theorem gX2_takeOut_Jx4a65c_remove_915e3 : GoodIn wsX2_takeOut (wsV RX2 81 RJx4a65c yJx4a65c_remove_915e3 wsJx4a65c_remove_915e3) := goodIn_app (goodIn_of _ (by decide +kernel)) ggX2_takeOut_Jx4a65c_remove_915e3
theorem dX2_takeOut_0 : decode cX2_takeOut 0 = .ok (.iload_n 1, 1) := by decide +kernel
theorem dX2_takeOut_1 : decode cX2_takeOut 1 = .ok (.istore_n 3, 1) := by decide +kernel
theorem dX2_takeOut_2 : decode cX2_takeOut 2 = .ok (.aload_n 0, 1) := by decide +kernel
theorem dX2_takeOut_3 : decode cX2_takeOut 3 = .ok (.getfield 12, 3) := by decide +kernel
theorem dX2_takeOut_6 : decode cX2_takeOut 6 = .ok (.invokevirtual 47, 3) := by decide +kernel
theorem dX2_takeOut_9 : decode cX2_takeOut 9 = .ok (.istore 4, 2) := by decide +kernel
theorem dX2_takeOut_11 : decode cX2_takeOut 11 = .ok (.iload 4, 2) := by decide +kernel
theorem dX2_takeOut_13 : decode cX2_takeOut 13 = .ok (.ifCond .le 87, 3) := by decide +kernel
theorem dX2_takeOut_16 : decode cX2_takeOut 16 = .ok (.iload_n 3, 1) := by decide +kernel
theorem dX2_takeOut_17 : decode cX2_takeOut 17 = .ok (.ifCond .le 83, 3) := by decide +kernel
theorem dX2_takeOut_20 : decode cX2_takeOut 20 = .ok (.aload_n 0, 1) := by decide +kernel
theorem dX2_takeOut_21 : decode cX2_takeOut 21 = .ok (.iload_n 2, 1) := by decide +kernel
theorem dX2_takeOut_22 : decode cX2_takeOut 22 = .ok (.invokevirtual 72, 3) := by decide +kernel
theorem dX2_takeOut_25 : decode cX2_takeOut 25 = .ok (.istore 5, 2) := by decide +kernel
theorem dX2_takeOut_27 : decode cX2_takeOut 27 = .ok (.iload 5, 2) := by decide +kernel
theorem dX2_takeOut_29 : decode cX2_takeOut 29 = .ok (.iconst (-1), 1) := by decide +kernel
theorem dX2_takeOut_30 : decode cX2_takeOut 30 = .ok (.if_icmp .ne 4, 3) := by decide +kernel
theorem dX2_takeOut_33 : decode cX2_takeOut 33 = .ok (.return_, 1) := by decide +kernel
theorem dX2_takeOut_34 : decode cX2_takeOut 34 = .ok (.aload_n 0, 1) := by decide +kernel
theorem dX2_takeOut_35 : decode cX2_takeOut 35 = .ok (.getfield 12, 3) := by decide +kernel
theorem dX2_takeOut_38 : decode cX2_takeOut 38 = .ok (.iload 5, 2) := by decide +kernel
theorem dX2_takeOut_40 : decode cX2_takeOut 40 = .ok (.invokevirtual 51, 3) := by decide +kernel
theorem dX2_takeOut_43 : decode cX2_takeOut 43 = .ok (.checkcast 55, 3) := by decide +kernel
theorem dX2_takeOut_46 : decode cX2_takeOut 46 = .ok (.astore 6, 2) := by decide +kernel
theorem dX2_takeOut_48 : decode cX2_takeOut 48 = .ok (.iload_n 3, 1) := by decide +kernel
theorem dX2_takeOut_49 : decode cX2_takeOut 49 = .ok (.aload 6, 2) := by decide +kernel
theorem dX2_takeOut_51 : decode cX2_takeOut 51 = .ok (.getfield 61, 3) := by decide +kernel
theorem dX2_takeOut_54 : decode cX2_takeOut 54 = .ok (.invokestatic 75, 3) := by decide +kernel
theorem dX2_takeOut_57 : decode cX2_takeOut 57 = .ok (.istore 7, 2) := by decide +kernel
theorem dX2_takeOut_59 : decode cX2_takeOut 59 = .ok (.iload_n 3, 1) := by decide +kernel
theorem dX2_takeOut_60 : decode cX2_takeOut 60 = .ok (.iload 7, 2) := by decide +kernel
theorem dX2_takeOut_62 : decode cX2_takeOut 62 = .ok (.isub, 1) := by decide +kernel
theorem dX2_takeOut_63 : decode cX2_takeOut 63 = .ok (.istore_n 3, 1) := by decide +kernel
theorem dX2_takeOut_64 : decode cX2_takeOut 64 = .ok (.aload 6, 2) := by decide +kernel
theorem dX2_takeOut_66 : decode cX2_takeOut 66 = .ok (.dup, 1) := by decide +kernel
theorem dX2_takeOut_67 : decode cX2_takeOut 67 = .ok (.getfield 61, 3) := by decide +kernel
theorem dX2_takeOut_70 : decode cX2_takeOut 70 = .ok (.iload 7, 2) := by decide +kernel
theorem dX2_takeOut_72 : decode cX2_takeOut 72 = .ok (.isub, 1) := by decide +kernel
theorem dX2_takeOut_73 : decode cX2_takeOut 73 = .ok (.putfield 61, 3) := by decide +kernel
theorem dX2_takeOut_76 : decode cX2_takeOut 76 = .ok (.aload 6, 2) := by decide +kernel
theorem dX2_takeOut_78 : decode cX2_takeOut 78 = .ok (.getfield 61, 3) := by decide +kernel
theorem dX2_takeOut_81 : decode cX2_takeOut 81 = .ok (.ifCond .ne 13, 3) := by decide +kernel
theorem dX2_takeOut_84 : decode cX2_takeOut 84 = .ok (.aload_n 0, 1) := by decide +kernel
theorem dX2_takeOut_85 : decode cX2_takeOut 85 = .ok (.getfield 12, 3) := by decide +kernel
theorem dX2_takeOut_88 : decode cX2_takeOut 88 = .ok (.iload 5, 2) := by decide +kernel
theorem dX2_takeOut_90 : decode cX2_takeOut 90 = .ok (.invokevirtual 81, 3) := by decide +kernel
theorem dX2_takeOut_93 : decode cX2_takeOut 93 = .ok (.pop, 1) := by decide +kernel
theorem dX2_takeOut_94 : decode cX2_takeOut 94 = .ok (.iinc 4 (-1), 3) := by decide +kernel
theorem dX2_takeOut_97 : decode cX2_takeOut 97 = .ok (.goto (-86), 3) := by decide +kernel
theorem dX2_takeOut_100 : decode cX2_takeOut 100 = .ok (.return_, 1) := by decide +kernel
set_option maxRecDepth 20000 in
theorem ggX2_liveHoldThatEndsFirst_Jx4a65c_size_8abf5 : GoodIn wsX2_liveHoldThatEndsFirst wsJx4a65c_size_8abf5 := goodIn_r _ [7, 8, 46, 47, 48] (by decide +kernel) (by decide +kernel)
set_option maxRecDepth 20000 in
theorem gX2_liveHoldThatEndsFirst_Jx4a65c_size_8abf5 : GoodIn wsX2_liveHoldThatEndsFirst (wsV RX2 47 RJx4a65c yJx4a65c_size_8abf5 wsJx4a65c_size_8abf5) := goodIn_app (goodIn_of _ (by decide +kernel)) ggX2_liveHoldThatEndsFirst_Jx4a65c_size_8abf5
set_option maxRecDepth 20000 in
theorem ggX2_liveHoldThatEndsFirst_Jx4a65c_get_915e3 : GoodIn wsX2_liveHoldThatEndsFirst wsJx4a65c_get_915e3 := goodIn_r _ [12, 8, 13, 14, 15, 16, 17, 18, 19, 20, 21, 22, 23, 6, 24, 25, 46, 47, 48] (by decide +kernel) (by decide +kernel)
set_option maxRecDepth 20000 in
theorem gX2_liveHoldThatEndsFirst_Jx4a65c_get_915e3 : GoodIn wsX2_liveHoldThatEndsFirst (wsV RX2 51 RJx4a65c yJx4a65c_get_915e3 wsJx4a65c_get_915e3) := goodIn_app (goodIn_of _ (by decide +kernel)) ggX2_liveHoldThatEndsFirst_Jx4a65c_get_915e3
set_option maxRecDepth 20000 in
theorem ggX2_liveHoldThatEndsFirst_X4_isLive : GoodIn wsX2_liveHoldThatEndsFirst wsX4_isLive := goodIn_r _ [30, 31, 32, 49, 50, 51, 52] (by decide +kernel) (by decide +kernel)
set_option maxRecDepth 20000 in
theorem gX2_liveHoldThatEndsFirst_X4_isLive : GoodIn wsX2_liveHoldThatEndsFirst (wsV RX2 57 RX4 yX4_isLive wsX4_isLive) := goodIn_app (goodIn_of _ (by decide +kernel)) ggX2_liveHoldThatEndsFirst_X4_isLive
set_option maxRecDepth 20000 in
theorem ggX2_liveHoldThatEndsFirst_X4_end : GoodIn wsX2_liveHoldThatEndsFirst wsX4_end := goodIn_r _ [36, 31, 32, 49, 50, 51, 52] (by decide +kernel) (by decide +kernel)
set_option maxRecDepth 20000 in
theorem gX2_liveHoldThatEndsFirst_X4_end : GoodIn wsX2_liveHoldThatEndsFirst (wsV RX2 84 RX4 yX4_end wsX4_end) := goodIn_app (goodIn_of _ (by decide +kernel)) ggX2_liveHoldThatEndsFirst_X4_end
theorem dX2_liveHoldThatEndsFirst_0 : decode cX2_liveHoldThatEndsFirst 0 = .ok (.iconst (-1), 1) := by decide +kernel
theorem dX2_liveHoldThatEndsFirst_1 : decode cX2_liveHoldThatEndsFirst 1 = .ok (.istore_n 2, 1) := by decide +kernel
theorem dX2_liveHoldThatEndsFirst_2 : decode cX2_liveHoldThatEndsFirst 2 = .ok (.iconst 0, 1) := by decide +kernel
theorem dX2_liveHoldThatEndsFirst_3 : decode cX2_liveHoldThatEndsFirst 3 = .ok (.istore_n 3, 1) := by decide +kernel
theorem dX2_liveHoldThatEndsFirst_4 : decode cX2_liveHoldThatEndsFirst 4 = .ok (.iload_n 3, 1) := by decide +kernel
theorem dX2_liveHoldThatEndsFirst_5 : decode cX2_liveHoldThatEndsFirst 5 = .ok (.aload_n 0, 1) := by decide +kernel
theorem dX2_liveHoldThatEndsFirst_6 : decode cX2_liveHoldThatEndsFirst 6 = .ok (.getfield 12, 3) := by decide +kernel
theorem dX2_liveHoldThatEndsFirst_9 : decode cX2_liveHoldThatEndsFirst 9 = .ok (.invokevirtual 47, 3) := by decide +kernel
theorem dX2_liveHoldThatEndsFirst_12 : decode cX2_liveHoldThatEndsFirst 12 = .ok (.if_icmp .ge 60, 3) := by decide +kernel
theorem dX2_liveHoldThatEndsFirst_15 : decode cX2_liveHoldThatEndsFirst 15 = .ok (.aload_n 0, 1) := by decide +kernel
theorem dX2_liveHoldThatEndsFirst_16 : decode cX2_liveHoldThatEndsFirst 16 = .ok (.getfield 12, 3) := by decide +kernel
theorem dX2_liveHoldThatEndsFirst_19 : decode cX2_liveHoldThatEndsFirst 19 = .ok (.iload_n 3, 1) := by decide +kernel
theorem dX2_liveHoldThatEndsFirst_20 : decode cX2_liveHoldThatEndsFirst 20 = .ok (.invokevirtual 51, 3) := by decide +kernel
theorem dX2_liveHoldThatEndsFirst_23 : decode cX2_liveHoldThatEndsFirst 23 = .ok (.checkcast 55, 3) := by decide +kernel
theorem dX2_liveHoldThatEndsFirst_26 : decode cX2_liveHoldThatEndsFirst 26 = .ok (.astore 4, 2) := by decide +kernel
theorem dX2_liveHoldThatEndsFirst_28 : decode cX2_liveHoldThatEndsFirst 28 = .ok (.aload 4, 2) := by decide +kernel
theorem dX2_liveHoldThatEndsFirst_30 : decode cX2_liveHoldThatEndsFirst 30 = .ok (.iload_n 1, 1) := by decide +kernel
theorem dX2_liveHoldThatEndsFirst_31 : decode cX2_liveHoldThatEndsFirst 31 = .ok (.invokevirtual 57, 3) := by decide +kernel
theorem dX2_liveHoldThatEndsFirst_34 : decode cX2_liveHoldThatEndsFirst 34 = .ok (.ifCond .eq 32, 3) := by decide +kernel
theorem dX2_liveHoldThatEndsFirst_37 : decode cX2_liveHoldThatEndsFirst 37 = .ok (.iload_n 2, 1) := by decide +kernel
theorem dX2_liveHoldThatEndsFirst_38 : decode cX2_liveHoldThatEndsFirst 38 = .ok (.iconst (-1), 1) := by decide +kernel
theorem dX2_liveHoldThatEndsFirst_39 : decode cX2_liveHoldThatEndsFirst 39 = .ok (.if_icmp .eq 25, 3) := by decide +kernel
theorem dX2_liveHoldThatEndsFirst_42 : decode cX2_liveHoldThatEndsFirst 42 = .ok (.aload 4, 2) := by decide +kernel
theorem dX2_liveHoldThatEndsFirst_44 : decode cX2_liveHoldThatEndsFirst 44 = .ok (.invokevirtual 84, 3) := by decide +kernel
theorem dX2_liveHoldThatEndsFirst_47 : decode cX2_liveHoldThatEndsFirst 47 = .ok (.aload_n 0, 1) := by decide +kernel
theorem dX2_liveHoldThatEndsFirst_48 : decode cX2_liveHoldThatEndsFirst 48 = .ok (.getfield 12, 3) := by decide +kernel
theorem dX2_liveHoldThatEndsFirst_51 : decode cX2_liveHoldThatEndsFirst 51 = .ok (.iload_n 2, 1) := by decide +kernel
theorem dX2_liveHoldThatEndsFirst_52 : decode cX2_liveHoldThatEndsFirst 52 = .ok (.invokevirtual 51, 3) := by decide +kernel
theorem dX2_liveHoldThatEndsFirst_55 : decode cX2_liveHoldThatEndsFirst 55 = .ok (.checkcast 55, 3) := by decide +kernel
theorem dX2_liveHoldThatEndsFirst_58 : decode cX2_liveHoldThatEndsFirst 58 = .ok (.invokevirtual 84, 3) := by decide +kernel
theorem dX2_liveHoldThatEndsFirst_61 : decode cX2_liveHoldThatEndsFirst 61 = .ok (.if_icmp .ge 5, 3) := by decide +kernel
theorem dX2_liveHoldThatEndsFirst_64 : decode cX2_liveHoldThatEndsFirst 64 = .ok (.iload_n 3, 1) := by decide +kernel
theorem dX2_liveHoldThatEndsFirst_65 : decode cX2_liveHoldThatEndsFirst 65 = .ok (.istore_n 2, 1) := by decide +kernel
theorem dX2_liveHoldThatEndsFirst_66 : decode cX2_liveHoldThatEndsFirst 66 = .ok (.iinc 3 1, 3) := by decide +kernel
theorem dX2_liveHoldThatEndsFirst_69 : decode cX2_liveHoldThatEndsFirst 69 = .ok (.goto (-65), 3) := by decide +kernel
theorem dX2_liveHoldThatEndsFirst_72 : decode cX2_liveHoldThatEndsFirst 72 = .ok (.iload_n 2, 1) := by decide +kernel
theorem dX2_liveHoldThatEndsFirst_73 : decode cX2_liveHoldThatEndsFirst 73 = .ok (.ireturn, 1) := by decide +kernel
set_option maxRecDepth 20000 in
theorem ggX2_settle_X2_giveBack : GoodIn wsX2_settle wsX2_giveBack := goodIn_r _ [15, 16, 17, 6, 7, 8, 9, 10, 18, 19, 20, 21, 22, 23, 24, 25, 26, 27, 28, 29, 30, 31, 32, 33, 34, 35, 36, 37, 38, 39, 40, 41, 42, 43, 44, 45, 46, 47, 48, 49, 50, 51, 52, 53, 54, 55, 56, 57, 58, 59, 60, 61, 62, 63, 64, 65, 66, 67, 68, 69, 70, 71, 72, 73, 74, 75, 76, 77, 78, 79, 80, 81, 82, 83, 84, 85, 86, 87, 88, 89, 90, 91, 92, 105, 106, 107, 108, 109, 110, 111, 112, 113, 114, 115, 116, 117, 118, 119, 120, 121, 122, 123, 124, 125, 126, 127, 128, 129, 130] (by decide +kernel) (by decide +kernel)
set_option maxRecDepth 20000 in
theorem gX2_settle_X2_giveBack : GoodIn wsX2_settle (wsV RX2 87 RX2 yX2_giveBack wsX2_giveBack) := goodIn_app (goodIn_of _ (by decide +kernel)) ggX2_settle_X2_giveBack
set_option maxRecDepth 20000 in
theorem ggX2_settle_X2_liveTokens : GoodIn wsX2_settle wsX2_liveTokens := goodIn_r _ [96, 16, 17, 97, 18, 19, 20, 21, 22, 23, 24, 25, 26, 27, 28, 29, 30, 31, 32, 33, 34, 35, 36, 37, 38, 39, 40, 41, 42, 43, 44, 45, 46, 47, 105, 106, 107, 108, 109, 110, 111, 112, 113, 125, 126, 127, 128, 122, 123, 124] (by decide +kernel) (by decide +kernel)
set_option maxRecDepth 20000 in
theorem gX2_settle_X2_liveTokens : GoodIn wsX2_settle (wsV RX2 64 RX2 yX2_liveTokens wsX2_liveTokens) := goodIn_app (goodIn_of _ (by decide +kernel)) ggX2_settle_X2_liveTokens
set_option maxRecDepth 20000 in
theorem ggX2_settle_X2_mayAsk : GoodIn wsX2_settle wsX2_mayAsk := goodIn_r _ [101, 4, 5, 105, 106, 107, 108, 109, 110, 111, 112, 113] (by decide +kernel) (by decide +kernel)
set_option maxRecDepth 20000 in
theorem gX2_settle_X2_mayAsk : GoodIn wsX2_settle (wsV RX2 91 RX2 yX2_mayAsk wsX2_mayAsk) := goodIn_app (goodIn_of _ (by decide +kernel)) ggX2_settle_X2_mayAsk
set_option maxRecDepth 20000 in
theorem ggX2_settle_X6_init : GoodIn wsX2_settle wsX6_init := goodIn_r _ [104, 59, 60, 61, 62, 63, 64, 65, 67, 68, 70, 71, 114, 115, 116, 117, 118, 119, 120, 121] (by decide +kernel) (by decide +kernel)
set_option maxRecDepth 20000 in
theorem gX2_settle_X6_init : GoodIn wsX2_settle (wsX6_init) := ggX2_settle_X6_init
set_option maxRecDepth 20000 in
theorem ggX2_settle_X7_send : GoodIn wsX2_settle wsX7_send := goodIn_r _ [76, 77, 78, 129, 130] (by decide +kernel) (by decide +kernel)
set_option maxRecDepth 20000 in
theorem gX2_settle_X7_send : GoodIn wsX2_settle (wsV RX2 99 RX7 yX7_send wsX7_send) := goodIn_app (goodIn_of _ (by decide +kernel)) ggX2_settle_X7_send
theorem dX2_settle_0 : decode cX2_settle 0 = .ok (.aload_n 0, 1) := by decide +kernel
theorem dX2_settle_1 : decode cX2_settle 1 = .ok (.iload_n 1, 1) := by decide +kernel
theorem dX2_settle_2 : decode cX2_settle 2 = .ok (.iload_n 2, 1) := by decide +kernel
theorem dX2_settle_3 : decode cX2_settle 3 = .ok (.aload_n 3, 1) := by decide +kernel
theorem dX2_settle_4 : decode cX2_settle 4 = .ok (.invokevirtual 87, 3) := by decide +kernel
theorem dX2_settle_7 : decode cX2_settle 7 = .ok (.aload_n 0, 1) := by decide +kernel
theorem dX2_settle_8 : decode cX2_settle 8 = .ok (.aload_n 0, 1) := by decide +kernel
theorem dX2_settle_9 : decode cX2_settle 9 = .ok (.getfield 31, 3) := by decide +kernel
theorem dX2_settle_12 : decode cX2_settle 12 = .ok (.aload_n 0, 1) := by decide +kernel
theorem dX2_settle_13 : decode cX2_settle 13 = .ok (.getfield 28, 3) := by decide +kernel
theorem dX2_settle_16 : decode cX2_settle 16 = .ok (.iconst 2, 1) := by decide +kernel
theorem dX2_settle_17 : decode cX2_settle 17 = .ok (.idiv, 1) := by decide +kernel
theorem dX2_settle_18 : decode cX2_settle 18 = .ok (.iadd, 1) := by decide +kernel
theorem dX2_settle_19 : decode cX2_settle 19 = .ok (.putfield 28, 3) := by decide +kernel
theorem dX2_settle_22 : decode cX2_settle 22 = .ok (.aload_n 0, 1) := by decide +kernel
theorem dX2_settle_23 : decode cX2_settle 23 = .ok (.iconst 0, 1) := by decide +kernel
theorem dX2_settle_24 : decode cX2_settle 24 = .ok (.putfield 31, 3) := by decide +kernel
theorem dX2_settle_27 : decode cX2_settle 27 = .ok (.iconst 2, 1) := by decide +kernel
theorem dX2_settle_28 : decode cX2_settle 28 = .ok (.aload_n 0, 1) := by decide +kernel
theorem dX2_settle_29 : decode cX2_settle 29 = .ok (.getfield 28, 3) := by decide +kernel
theorem dX2_settle_32 : decode cX2_settle 32 = .ok (.imul, 1) := by decide +kernel
theorem dX2_settle_33 : decode cX2_settle 33 = .ok (.aload_n 0, 1) := by decide +kernel
theorem dX2_settle_34 : decode cX2_settle 34 = .ok (.iload_n 2, 1) := by decide +kernel
theorem dX2_settle_35 : decode cX2_settle 35 = .ok (.invokevirtual 64, 3) := by decide +kernel
theorem dX2_settle_38 : decode cX2_settle 38 = .ok (.isub, 1) := by decide +kernel
theorem dX2_settle_39 : decode cX2_settle 39 = .ok (.istore 4, 2) := by decide +kernel
theorem dX2_settle_41 : decode cX2_settle 41 = .ok (.iload 4, 2) := by decide +kernel
theorem dX2_settle_43 : decode cX2_settle 43 = .ok (.ifCond .le 57, 3) := by decide +kernel
theorem dX2_settle_46 : decode cX2_settle 46 = .ok (.aload_n 0, 1) := by decide +kernel
theorem dX2_settle_47 : decode cX2_settle 47 = .ok (.iload_n 2, 1) := by decide +kernel
theorem dX2_settle_48 : decode cX2_settle 48 = .ok (.invokevirtual 91, 3) := by decide +kernel
theorem dX2_settle_51 : decode cX2_settle 51 = .ok (.ifCond .eq 49, 3) := by decide +kernel
theorem dX2_settle_54 : decode cX2_settle 54 = .ok (.aload_n 0, 1) := by decide +kernel
theorem dX2_settle_55 : decode cX2_settle 55 = .ok (.dup, 1) := by decide +kernel
theorem dX2_settle_56 : decode cX2_settle 56 = .ok (.getfield 34, 3) := by decide +kernel
theorem dX2_settle_59 : decode cX2_settle 59 = .ok (.iconst 1, 1) := by decide +kernel
theorem dX2_settle_60 : decode cX2_settle 60 = .ok (.iadd, 1) := by decide +kernel
theorem dX2_settle_61 : decode cX2_settle 61 = .ok (.putfield 34, 3) := by decide +kernel
theorem dX2_settle_64 : decode cX2_settle 64 = .ok (.aload_n 0, 1) := by decide +kernel
theorem dX2_settle_65 : decode cX2_settle 65 = .ok (.iconst 1, 1) := by decide +kernel
theorem dX2_settle_66 : decode cX2_settle 66 = .ok (.putfield 37, 3) := by decide +kernel
theorem dX2_settle_69 : decode cX2_settle 69 = .ok (.aload_n 0, 1) := by decide +kernel
theorem dX2_settle_70 : decode cX2_settle 70 = .ok (.iload_n 2, 1) := by decide +kernel
theorem dX2_settle_71 : decode cX2_settle 71 = .ok (.putfield 41, 3) := by decide +kernel
theorem dX2_settle_74 : decode cX2_settle 74 = .ok (.aload_n 3, 1) := by decide +kernel
theorem dX2_settle_75 : decode cX2_settle 75 = .ok (.new 94, 3) := by decide +kernel
theorem dX2_settle_78 : decode cX2_settle 78 = .ok (.dup, 1) := by decide +kernel
theorem dX2_settle_79 : decode cX2_settle 79 = .ok (.aload_n 0, 1) := by decide +kernel
theorem dX2_settle_80 : decode cX2_settle 80 = .ok (.getfield 18, 3) := by decide +kernel
theorem dX2_settle_83 : decode cX2_settle 83 = .ok (.aload_n 0, 1) := by decide +kernel
theorem dX2_settle_84 : decode cX2_settle 84 = .ok (.getfield 22, 3) := by decide +kernel
theorem dX2_settle_87 : decode cX2_settle 87 = .ok (.iload_n 1, 1) := by decide +kernel
theorem dX2_settle_88 : decode cX2_settle 88 = .ok (.aload_n 0, 1) := by decide +kernel
theorem dX2_settle_89 : decode cX2_settle 89 = .ok (.getfield 34, 3) := by decide +kernel
theorem dX2_settle_92 : decode cX2_settle 92 = .ok (.iload 4, 2) := by decide +kernel
theorem dX2_settle_94 : decode cX2_settle 94 = .ok (.invokespecial 96, 3) := by decide +kernel
theorem dX2_settle_97 : decode cX2_settle 97 = .ok (.invokevirtual 99, 3) := by decide +kernel
theorem dX2_settle_100 : decode cX2_settle 100 = .ok (.return_, 1) := by decide +kernel
theorem dX2_mayAsk_0 : decode cX2_mayAsk 0 = .ok (.aload_n 0, 1) := by decide +kernel
theorem dX2_mayAsk_1 : decode cX2_mayAsk 1 = .ok (.getfield 37, 3) := by decide +kernel
theorem dX2_mayAsk_4 : decode cX2_mayAsk 4 = .ok (.ifCond .eq 15, 3) := by decide +kernel
theorem dX2_mayAsk_7 : decode cX2_mayAsk 7 = .ok (.iload_n 1, 1) := by decide +kernel
theorem dX2_mayAsk_8 : decode cX2_mayAsk 8 = .ok (.aload_n 0, 1) := by decide +kernel
theorem dX2_mayAsk_9 : decode cX2_mayAsk 9 = .ok (.getfield 41, 3) := by decide +kernel
theorem dX2_mayAsk_12 : decode cX2_mayAsk 12 = .ok (.isub, 1) := by decide +kernel
theorem dX2_mayAsk_13 : decode cX2_mayAsk 13 = .ok (.sipush 500, 3) := by decide +kernel
theorem dX2_mayAsk_16 : decode cX2_mayAsk 16 = .ok (.if_icmp .lt 7, 3) := by decide +kernel
theorem dX2_mayAsk_19 : decode cX2_mayAsk 19 = .ok (.iconst 1, 1) := by decide +kernel
theorem dX2_mayAsk_20 : decode cX2_mayAsk 20 = .ok (.goto 4, 3) := by decide +kernel
theorem dX2_mayAsk_23 : decode cX2_mayAsk 23 = .ok (.iconst 0, 1) := by decide +kernel
theorem dX2_mayAsk_24 : decode cX2_mayAsk 24 = .ok (.ireturn, 1) := by decide +kernel
set_option maxRecDepth 20000 in
theorem ggX2_giveBack_Jx4a65c_size_8abf5 : GoodIn wsX2_giveBack wsJx4a65c_size_8abf5 := goodIn_r _ [12, 13, 100, 101, 102] (by decide +kernel) (by decide +kernel)
set_option maxRecDepth 20000 in
theorem gX2_giveBack_Jx4a65c_size_8abf5 : GoodIn wsX2_giveBack (wsV RX2 47 RJx4a65c yJx4a65c_size_8abf5 wsJx4a65c_size_8abf5) := goodIn_app (goodIn_of _ (by decide +kernel)) ggX2_giveBack_Jx4a65c_size_8abf5
set_option maxRecDepth 20000 in
theorem ggX2_giveBack_Jx4a65c_get_915e3 : GoodIn wsX2_giveBack wsJx4a65c_get_915e3 := goodIn_r _ [17, 13, 18, 19, 20, 21, 22, 23, 24, 25, 26, 27, 28, 11, 29, 30, 100, 101, 102] (by decide +kernel) (by decide +kernel)
set_option maxRecDepth 20000 in
theorem gX2_giveBack_Jx4a65c_get_915e3 : GoodIn wsX2_giveBack (wsV RX2 51 RJx4a65c yJx4a65c_get_915e3 wsJx4a65c_get_915e3) := goodIn_app (goodIn_of _ (by decide +kernel)) ggX2_giveBack_Jx4a65c_get_915e3
set_option maxRecDepth 20000 in
theorem ggX2_giveBack_X4_isLive : GoodIn wsX2_giveBack wsX4_isLive := goodIn_r _ [35, 36, 37, 103, 104, 105, 106] (by decide +kernel) (by decide +kernel)
set_option maxRecDepth 20000 in
theorem gX2_giveBack_X4_isLive : GoodIn wsX2_giveBack (wsV RX2 57 RX4 yX4_isLive wsX4_isLive) := goodIn_app (goodIn_of _ (by decide +kernel)) ggX2_giveBack_X4_isLive
set_option maxRecDepth 20000 in
theorem ggX2_giveBack_X4_isHalfOver : GoodIn wsX2_giveBack wsX4_isHalfOver := goodIn_r _ [41, 36, 37, 103, 104, 105, 106] (by decide +kernel) (by decide +kernel)
set_option maxRecDepth 20000 in
theorem gX2_giveBack_X4_isHalfOver : GoodIn wsX2_giveBack (wsV RX2 105 RX4 yX4_isHalfOver wsX4_isHalfOver) := goodIn_app (goodIn_of _ (by decide +kernel)) ggX2_giveBack_X4_isHalfOver
set_option maxRecDepth 20000 in
theorem ggX2_giveBack_Jx4a65c_set_bcc79 : GoodIn wsX2_giveBack wsJx4a65c_set_bcc79 := goodIn_r _ [45, 13, 30, 18, 19, 20, 21, 22, 23, 24, 25, 26, 27, 28, 11, 29, 100, 101, 102] (by decide +kernel) (by decide +kernel)
set_option maxRecDepth 20000 in
theorem gX2_giveBack_Jx4a65c_set_bcc79 : GoodIn wsX2_giveBack (wsV RX2 108 RJx4a65c yJx4a65c_set_bcc79 wsJx4a65c_set_bcc79) := goodIn_app (goodIn_of _ (by decide +kernel)) ggX2_giveBack_Jx4a65c_set_bcc79
set_option maxRecDepth 20000 in
theorem ggX2_giveBack_X6_init__ : GoodIn wsX2_giveBack wsX6_init__ := goodIn_r _ [48, 49, 50, 51, 52, 53, 54, 55, 56, 57, 58, 59, 60, 61, 92, 93, 94, 95, 96, 97, 98, 99, 103, 104, 105, 106] (by decide +kernel) (by decide +kernel)
set_option maxRecDepth 20000 in
theorem gX2_giveBack_X6_init__ : GoodIn wsX2_giveBack (wsX6_init__) := ggX2_giveBack_X6_init__
set_option maxRecDepth 20000 in
theorem ggX2_giveBack_X7_send : GoodIn wsX2_giveBack wsX7_send := goodIn_r _ [66, 67, 68, 107, 108] (by decide +kernel) (by decide +kernel)
set_option maxRecDepth 20000 in
theorem gX2_giveBack_X7_send : GoodIn wsX2_giveBack (wsV RX2 99 RX7 yX7_send wsX7_send) := goodIn_app (goodIn_of _ (by decide +kernel)) ggX2_giveBack_X7_send
set_option maxRecDepth 20000 in
theorem ggX2_giveBack_Jx4a65c_remove_915e3 : GoodIn wsX2_giveBack wsJx4a65c_remove_915e3 := goodIn_r _ [72, 13, 30, 18, 19, 20, 21, 22, 23, 24, 25, 73, 74, 75, 11, 76, 77, 78, 79, 80, 81, 82, 100, 101, 102] (by decide +kernel) (by decide +kernel)
set_option maxRecDepth 20000 in
theorem gX2_giveBack_Jx4a65c_remove_915e3 : GoodIn wsX2_giveBack (wsV RX2 81 RJx4a65c yJx4a65c_remove_915e3 wsJx4a65c_remove_915e3) := goodIn_app (goodIn_of _ (by decide +kernel)) ggX2_giveBack_Jx4a65c_remove_915e3
theorem dX2_giveBack_0 : decode cX2_giveBack 0 = .ok (.iconst 0, 1) := by decide +kernel
theorem dX2_giveBack_1 : decode cX2_giveBack 1 = .ok (.istore 4, 2) := by decide +kernel
theorem dX2_giveBack_3 : decode cX2_giveBack 3 = .ok (.aload_n 0, 1) := by decide +kernel
theorem dX2_giveBack_4 : decode cX2_giveBack 4 = .ok (.getfield 12, 3) := by decide +kernel
theorem dX2_giveBack_7 : decode cX2_giveBack 7 = .ok (.invokevirtual 47, 3) := by decide +kernel
theorem dX2_giveBack_10 : decode cX2_giveBack 10 = .ok (.istore 5, 2) := by decide +kernel
theorem dX2_giveBack_12 : decode cX2_giveBack 12 = .ok (.iconst 0, 1) := by decide +kernel
theorem dX2_giveBack_13 : decode cX2_giveBack 13 = .ok (.istore 6, 2) := by decide +kernel
theorem dX2_giveBack_15 : decode cX2_giveBack 15 = .ok (.iload 6, 2) := by decide +kernel
theorem dX2_giveBack_17 : decode cX2_giveBack 17 = .ok (.iload 5, 2) := by decide +kernel
theorem dX2_giveBack_19 : decode cX2_giveBack 19 = .ok (.if_icmp .ge 90, 3) := by decide +kernel
theorem dX2_giveBack_22 : decode cX2_giveBack 22 = .ok (.aload_n 0, 1) := by decide +kernel
theorem dX2_giveBack_23 : decode cX2_giveBack 23 = .ok (.getfield 12, 3) := by decide +kernel
theorem dX2_giveBack_26 : decode cX2_giveBack 26 = .ok (.iload 6, 2) := by decide +kernel
theorem dX2_giveBack_28 : decode cX2_giveBack 28 = .ok (.invokevirtual 51, 3) := by decide +kernel
theorem dX2_giveBack_31 : decode cX2_giveBack 31 = .ok (.checkcast 55, 3) := by decide +kernel
theorem dX2_giveBack_34 : decode cX2_giveBack 34 = .ok (.astore 7, 2) := by decide +kernel
theorem dX2_giveBack_36 : decode cX2_giveBack 36 = .ok (.aload 7, 2) := by decide +kernel
theorem dX2_giveBack_38 : decode cX2_giveBack 38 = .ok (.iload_n 2, 1) := by decide +kernel
theorem dX2_giveBack_39 : decode cX2_giveBack 39 = .ok (.invokevirtual 57, 3) := by decide +kernel
theorem dX2_giveBack_42 : decode cX2_giveBack 42 = .ok (.ifCond .eq 30, 3) := by decide +kernel
theorem dX2_giveBack_45 : decode cX2_giveBack 45 = .ok (.aload 7, 2) := by decide +kernel
theorem dX2_giveBack_47 : decode cX2_giveBack 47 = .ok (.iload_n 2, 1) := by decide +kernel
theorem dX2_giveBack_48 : decode cX2_giveBack 48 = .ok (.invokevirtual 105, 3) := by decide +kernel
theorem dX2_giveBack_51 : decode cX2_giveBack 51 = .ok (.ifCond .ne 21, 3) := by decide +kernel
theorem dX2_giveBack_54 : decode cX2_giveBack 54 = .ok (.aload_n 0, 1) := by decide +kernel
theorem dX2_giveBack_55 : decode cX2_giveBack 55 = .ok (.getfield 12, 3) := by decide +kernel
theorem dX2_giveBack_58 : decode cX2_giveBack 58 = .ok (.iload 4, 2) := by decide +kernel
theorem dX2_giveBack_60 : decode cX2_giveBack 60 = .ok (.aload 7, 2) := by decide +kernel
theorem dX2_giveBack_62 : decode cX2_giveBack 62 = .ok (.invokevirtual 108, 3) := by decide +kernel
theorem dX2_giveBack_65 : decode cX2_giveBack 65 = .ok (.pop, 1) := by decide +kernel
theorem dX2_giveBack_66 : decode cX2_giveBack 66 = .ok (.iinc 4 1, 3) := by decide +kernel
theorem dX2_giveBack_69 : decode cX2_giveBack 69 = .ok (.goto 34, 3) := by decide +kernel
theorem dX2_giveBack_72 : decode cX2_giveBack 72 = .ok (.aload 7, 2) := by decide +kernel
theorem dX2_giveBack_74 : decode cX2_giveBack 74 = .ok (.iload_n 2, 1) := by decide +kernel
theorem dX2_giveBack_75 : decode cX2_giveBack 75 = .ok (.invokevirtual 57, 3) := by decide +kernel
theorem dX2_giveBack_78 : decode cX2_giveBack 78 = .ok (.ifCond .eq 25, 3) := by decide +kernel
theorem dX2_giveBack_81 : decode cX2_giveBack 81 = .ok (.aload_n 3, 1) := by decide +kernel
theorem dX2_giveBack_82 : decode cX2_giveBack 82 = .ok (.new 94, 3) := by decide +kernel
theorem dX2_giveBack_85 : decode cX2_giveBack 85 = .ok (.dup, 1) := by decide +kernel
theorem dX2_giveBack_86 : decode cX2_giveBack 86 = .ok (.aload_n 0, 1) := by decide +kernel
theorem dX2_giveBack_87 : decode cX2_giveBack 87 = .ok (.getfield 18, 3) := by decide +kernel
theorem dX2_giveBack_90 : decode cX2_giveBack 90 = .ok (.aload_n 0, 1) := by decide +kernel
theorem dX2_giveBack_91 : decode cX2_giveBack 91 = .ok (.getfield 22, 3) := by decide +kernel
theorem dX2_giveBack_94 : decode cX2_giveBack 94 = .ok (.iload_n 1, 1) := by decide +kernel
theorem dX2_giveBack_95 : decode cX2_giveBack 95 = .ok (.aload 7, 2) := by decide +kernel
theorem dX2_giveBack_97 : decode cX2_giveBack 97 = .ok (.invokespecial 112, 3) := by decide +kernel
theorem dX2_giveBack_100 : decode cX2_giveBack 100 = .ok (.invokevirtual 99, 3) := by decide +kernel
theorem dX2_giveBack_103 : decode cX2_giveBack 103 = .ok (.iinc 6 1, 3) := by decide +kernel
theorem dX2_giveBack_106 : decode cX2_giveBack 106 = .ok (.goto (-91), 3) := by decide +kernel
theorem dX2_giveBack_109 : decode cX2_giveBack 109 = .ok (.iload 5, 2) := by decide +kernel
theorem dX2_giveBack_111 : decode cX2_giveBack 111 = .ok (.iconst 1, 1) := by decide +kernel
theorem dX2_giveBack_112 : decode cX2_giveBack 112 = .ok (.isub, 1) := by decide +kernel
theorem dX2_giveBack_113 : decode cX2_giveBack 113 = .ok (.istore 6, 2) := by decide +kernel
theorem dX2_giveBack_115 : decode cX2_giveBack 115 = .ok (.iload 6, 2) := by decide +kernel
theorem dX2_giveBack_117 : decode cX2_giveBack 117 = .ok (.iload 4, 2) := by decide +kernel
theorem dX2_giveBack_119 : decode cX2_giveBack 119 = .ok (.if_icmp .lt 19, 3) := by decide +kernel
theorem dX2_giveBack_122 : decode cX2_giveBack 122 = .ok (.aload_n 0, 1) := by decide +kernel
theorem dX2_giveBack_123 : decode cX2_giveBack 123 = .ok (.getfield 12, 3) := by decide +kernel
theorem dX2_giveBack_126 : decode cX2_giveBack 126 = .ok (.iload 6, 2) := by decide +kernel
theorem dX2_giveBack_128 : decode cX2_giveBack 128 = .ok (.invokevirtual 81, 3) := by decide +kernel
theorem dX2_giveBack_131 : decode cX2_giveBack 131 = .ok (.pop, 1) := by decide +kernel
theorem dX2_giveBack_132 : decode cX2_giveBack 132 = .ok (.iinc 6 (-1), 3) := by decide +kernel
theorem dX2_giveBack_135 : decode cX2_giveBack 135 = .ok (.goto (-20), 3) := by decide +kernel
theorem dX2_giveBack_138 : decode cX2_giveBack 138 = .ok (.return_, 1) := by decide +kernel
set_option maxRecDepth 20000 in
theorem ggX2_accept_X4_init : GoodIn wsX2_accept wsX4_init := goodIn_r _ [12, 13, 14, 15, 16, 17, 18, 19, 20, 21, 22, 88, 89, 90, 91, 92, 93, 94, 95, 96, 97, 98, 99] (by decide +kernel) (by decide +kernel)
set_option maxRecDepth 20000 in
theorem gX2_accept_X4_init : GoodIn wsX2_accept (wsX4_init) := ggX2_accept_X4_init
set_option maxRecDepth 20000 in
theorem ggX2_accept_Jx4a65c_add_9ea2d : GoodIn wsX2_accept wsJx4a65c_add_9ea2d := goodIn_r _ [27, 28, 29, 30, 31, 32, 33, 34, 26, 35, 36, 37, 38, 39, 40, 41, 42, 43, 44, 45, 46, 47, 48, 49, 50, 51, 52, 53, 54, 55, 56, 57, 58, 59, 60, 61, 62, 63, 64, 65, 66, 67, 68, 69, 70, 71, 72, 73, 74, 75, 76, 77, 78, 100, 101, 102] (by decide +kernel) (by decide +kernel)
set_option maxRecDepth 20000 in
theorem gX2_accept_Jx4a65c_add_9ea2d : GoodIn wsX2_accept (wsV RX2 122 RJx4a65c yJx4a65c_add_9ea2d wsJx4a65c_add_9ea2d) := goodIn_app (goodIn_of _ (by decide +kernel)) ggX2_accept_Jx4a65c_add_9ea2d
theorem dX2_accept_0 : decode cX2_accept 0 = .ok (.aload_n 0, 1) := by decide +kernel
theorem dX2_accept_1 : decode cX2_accept 1 = .ok (.getfield 37, 3) := by decide +kernel
theorem dX2_accept_4 : decode cX2_accept 4 = .ok (.ifCond .eq 14, 3) := by decide +kernel
theorem dX2_accept_7 : decode cX2_accept 7 = .ok (.aload_n 1, 1) := by decide +kernel
theorem dX2_accept_8 : decode cX2_accept 8 = .ok (.getfield 115, 3) := by decide +kernel
theorem dX2_accept_11 : decode cX2_accept 11 = .ok (.aload_n 0, 1) := by decide +kernel
theorem dX2_accept_12 : decode cX2_accept 12 = .ok (.getfield 34, 3) := by decide +kernel
theorem dX2_accept_15 : decode cX2_accept 15 = .ok (.if_icmp .eq 5, 3) := by decide +kernel
theorem dX2_accept_18 : decode cX2_accept 18 = .ok (.iconst 0, 1) := by decide +kernel
theorem dX2_accept_19 : decode cX2_accept 19 = .ok (.ireturn, 1) := by decide +kernel
theorem dX2_accept_20 : decode cX2_accept 20 = .ok (.aload_n 0, 1) := by decide +kernel
theorem dX2_accept_21 : decode cX2_accept 21 = .ok (.iconst 0, 1) := by decide +kernel
theorem dX2_accept_22 : decode cX2_accept 22 = .ok (.putfield 37, 3) := by decide +kernel
theorem dX2_accept_25 : decode cX2_accept 25 = .ok (.aload_n 1, 1) := by decide +kernel
theorem dX2_accept_26 : decode cX2_accept 26 = .ok (.getfield 118, 3) := by decide +kernel
theorem dX2_accept_29 : decode cX2_accept 29 = .ok (.ifCond .le 23, 3) := by decide +kernel
theorem dX2_accept_32 : decode cX2_accept 32 = .ok (.aload_n 0, 1) := by decide +kernel
theorem dX2_accept_33 : decode cX2_accept 33 = .ok (.getfield 12, 3) := by decide +kernel
theorem dX2_accept_36 : decode cX2_accept 36 = .ok (.new 55, 3) := by decide +kernel
theorem dX2_accept_39 : decode cX2_accept 39 = .ok (.dup, 1) := by decide +kernel
theorem dX2_accept_40 : decode cX2_accept 40 = .ok (.aload_n 1, 1) := by decide +kernel
theorem dX2_accept_41 : decode cX2_accept 41 = .ok (.aload_n 0, 1) := by decide +kernel
theorem dX2_accept_42 : decode cX2_accept 42 = .ok (.getfield 41, 3) := by decide +kernel
theorem dX2_accept_45 : decode cX2_accept 45 = .ok (.invokespecial 119, 3) := by decide +kernel
theorem dX2_accept_48 : decode cX2_accept 48 = .ok (.invokevirtual 122, 3) := by decide +kernel
theorem dX2_accept_51 : decode cX2_accept 51 = .ok (.pop, 1) := by decide +kernel
theorem dX2_accept_52 : decode cX2_accept 52 = .ok (.iconst 1, 1) := by decide +kernel
theorem dX2_accept_53 : decode cX2_accept 53 = .ok (.ireturn, 1) := by decide +kernel
set_option maxRecDepth 20000 in
theorem ggX3_init_X9_init : GoodIn wsX3_init wsX9_init := goodIn_r _ [13, 14, 2, 3, 15, 41, 42] (by decide +kernel) (by decide +kernel)
set_option maxRecDepth 20000 in
theorem gX3_init_X9_init_n11 : GoodIn wsX3_init (wsX9_init) := ggX3_init_X9_init
set_option maxRecDepth 20000 in
theorem ggX3_init_X2_init : GoodIn wsX3_init wsX2_init := goodIn_r _ [18, 19, 2, 3, 20, 21, 22, 23, 24, 25, 26, 27, 28, 29, 30, 31, 32, 33, 34, 35, 36, 37, 38, 39, 40, 55, 56, 57, 46, 47, 48, 49, 50, 51, 52, 53, 54] (by decide +kernel) (by decide +kernel)
set_option maxRecDepth 20000 in
theorem gX3_init_X2_init : GoodIn wsX3_init (wsX2_init) := ggX3_init_X2_init
theorem dX3_init_0 : decode cX3_init 0 = .ok (.aload_n 0, 1) := by decide +kernel
theorem dX3_init_1 : decode cX3_init 1 = .ok (.invokespecial 3, 3) := by decide +kernel
theorem dX3_init_4 : decode cX3_init 4 = .ok (.aload_n 0, 1) := by decide +kernel
theorem dX3_init_5 : decode cX3_init 5 = .ok (.new 9, 3) := by decide +kernel
theorem dX3_init_8 : decode cX3_init 8 = .ok (.dup, 1) := by decide +kernel
theorem dX3_init_9 : decode cX3_init 9 = .ok (.invokespecial 11, 3) := by decide +kernel
theorem dX3_init_12 : decode cX3_init 12 = .ok (.putfield 12, 3) := by decide +kernel
theorem dX3_init_15 : decode cX3_init 15 = .ok (.aload_n 0, 1) := by decide +kernel
theorem dX3_init_16 : decode cX3_init 16 = .ok (.bipush 8, 2) := by decide +kernel
theorem dX3_init_18 : decode cX3_init 18 = .ok (.anewarray 18, 3) := by decide +kernel
theorem dX3_init_21 : decode cX3_init 21 = .ok (.putfield 20, 3) := by decide +kernel
theorem dX3_init_24 : decode cX3_init 24 = .ok (.iconst 0, 1) := by decide +kernel
theorem dX3_init_25 : decode cX3_init 25 = .ok (.istore_n 2, 1) := by decide +kernel
theorem dX3_init_26 : decode cX3_init 26 = .ok (.iload_n 2, 1) := by decide +kernel
theorem dX3_init_27 : decode cX3_init 27 = .ok (.bipush 8, 2) := by decide +kernel
theorem dX3_init_29 : decode cX3_init 29 = .ok (.if_icmp .ge 24, 3) := by decide +kernel
theorem dX3_init_32 : decode cX3_init 32 = .ok (.aload_n 0, 1) := by decide +kernel
theorem dX3_init_33 : decode cX3_init 33 = .ok (.getfield 20, 3) := by decide +kernel
theorem dX3_init_36 : decode cX3_init 36 = .ok (.iload_n 2, 1) := by decide +kernel
theorem dX3_init_37 : decode cX3_init 37 = .ok (.new 18, 3) := by decide +kernel
theorem dX3_init_40 : decode cX3_init 40 = .ok (.dup, 1) := by decide +kernel
theorem dX3_init_41 : decode cX3_init 41 = .ok (.iload_n 1, 1) := by decide +kernel
theorem dX3_init_42 : decode cX3_init 42 = .ok (.iload_n 2, 1) := by decide +kernel
theorem dX3_init_43 : decode cX3_init 43 = .ok (.invokespecial 24, 3) := by decide +kernel
theorem dX3_init_46 : decode cX3_init 46 = .ok (.aastore, 1) := by decide +kernel
theorem dX3_init_47 : decode cX3_init 47 = .ok (.iinc 2 1, 3) := by decide +kernel
theorem dX3_init_50 : decode cX3_init 50 = .ok (.goto (-24), 3) := by decide +kernel
theorem dX3_init_53 : decode cX3_init 53 = .ok (.return_, 1) := by decide +kernel
set_option maxRecDepth 20000 in
theorem ggX3_spend_X9_now : GoodIn wsX3_spend wsX9_now := goodIn_r _ [7, 8, 9, 87, 88] (by decide +kernel) (by decide +kernel)
set_option maxRecDepth 20000 in
theorem gX3_spend_X9_now : GoodIn wsX3_spend (wsV RX3 27 RX9 yX9_now wsX9_now) := goodIn_app (goodIn_of _ (by decide +kernel)) ggX3_spend_X9_now
set_option maxRecDepth 20000 in
theorem ggX3_spend_X2_spend : GoodIn wsX3_spend wsX2_spend := goodIn_r _ [14, 15, 16, 17, 18, 19, 13, 20, 21, 22, 23, 24, 25, 26, 27, 28, 29, 30, 31, 32, 33, 34, 35, 36, 37, 38, 39, 40, 41, 42, 43, 44, 45, 46, 47, 48, 49, 50, 51, 52, 53, 54, 55, 56, 57, 58, 59, 60, 61, 62, 63, 64, 65, 66, 67, 68, 69, 70, 71, 72, 73, 74, 75, 76, 77, 78, 79, 80, 81, 82, 83, 89, 90, 91, 92, 93, 94, 95, 96, 97, 98, 99, 100, 101, 102, 103, 104] (by decide +kernel) (by decide +kernel)
set_option maxRecDepth 20000 in
theorem gX3_spend_X2_spend : GoodIn wsX3_spend (wsV RX3 31 RX2 yX2_spend wsX2_spend) := goodIn_app (goodIn_of _ (by decide +kernel)) ggX3_spend_X2_spend
theorem dX3_spend_0 : decode cX3_spend 0 = .ok (.aload_n 0, 1) := by decide +kernel
theorem dX3_spend_1 : decode cX3_spend 1 = .ok (.getfield 20, 3) := by decide +kernel
theorem dX3_spend_4 : decode cX3_spend 4 = .ok (.iload_n 1, 1) := by decide +kernel
theorem dX3_spend_5 : decode cX3_spend 5 = .ok (.aaload, 1) := by decide +kernel
theorem dX3_spend_6 : decode cX3_spend 6 = .ok (.iload_n 2, 1) := by decide +kernel
theorem dX3_spend_7 : decode cX3_spend 7 = .ok (.aload_n 0, 1) := by decide +kernel
theorem dX3_spend_8 : decode cX3_spend 8 = .ok (.getfield 12, 3) := by decide +kernel
theorem dX3_spend_11 : decode cX3_spend 11 = .ok (.invokevirtual 27, 3) := by decide +kernel
theorem dX3_spend_14 : decode cX3_spend 14 = .ok (.invokevirtual 31, 3) := by decide +kernel
theorem dX3_spend_17 : decode cX3_spend 17 = .ok (.ireturn, 1) := by decide +kernel
set_option maxRecDepth 20000 in
theorem ggX3_settle_X9_now : GoodIn wsX3_settle wsX9_now := goodIn_r _ [8, 9, 10, 122, 123] (by decide +kernel) (by decide +kernel)
set_option maxRecDepth 20000 in
theorem gX3_settle_X9_now : GoodIn wsX3_settle (wsV RX3 27 RX9 yX9_now wsX9_now) := goodIn_app (goodIn_of _ (by decide +kernel)) ggX3_settle_X9_now
set_option maxRecDepth 20000 in
theorem ggX3_settle_X2_settle : GoodIn wsX3_settle wsX2_settle := goodIn_r _ [15, 16, 17, 18, 19, 20, 21, 22, 23, 24, 25, 26, 27, 28, 14, 29, 30, 31, 32, 33, 34, 35, 36, 37, 38, 39, 40, 41, 42, 43, 44, 45, 46, 47, 48, 49, 50, 51, 52, 53, 54, 55, 56, 57, 58, 59, 60, 61, 62, 63, 64, 65, 66, 67, 68, 69, 70, 71, 72, 73, 74, 75, 76, 77, 78, 79, 80, 81, 82, 83, 84, 85, 86, 87, 88, 89, 90, 91, 92, 93, 94, 95, 96, 97, 98, 99, 100, 101, 102, 103, 104, 105, 106, 107, 108, 109, 110, 111, 112, 113, 114, 115, 116, 117, 118, 124, 125, 126, 127, 128, 129, 130, 131, 132, 133, 134, 135, 136, 137, 138, 139, 140, 141, 142, 143, 144, 145, 146, 147, 148, 149] (by decide +kernel) (by decide +kernel)
set_option maxRecDepth 20000 in
theorem gX3_settle_X2_settle : GoodIn wsX3_settle (wsV RX3 39 RX2 yX2_settle wsX2_settle) := goodIn_app (goodIn_of _ (by decide +kernel)) ggX3_settle_X2_settle
theorem dX3_settle_0 : decode cX3_settle 0 = .ok (.iconst 0, 1) := by decide +kernel
theorem dX3_settle_1 : decode cX3_settle 1 = .ok (.istore_n 2, 1) := by decide +kernel
theorem dX3_settle_2 : decode cX3_settle 2 = .ok (.iload_n 2, 1) := by decide +kernel
theorem dX3_settle_3 : decode cX3_settle 3 = .ok (.bipush 8, 2) := by decide +kernel
theorem dX3_settle_5 : decode cX3_settle 5 = .ok (.if_icmp .ge 30, 3) := by decide +kernel
theorem dX3_settle_8 : decode cX3_settle 8 = .ok (.aload_n 0, 1) := by decide +kernel
theorem dX3_settle_9 : decode cX3_settle 9 = .ok (.getfield 20, 3) := by decide +kernel
theorem dX3_settle_12 : decode cX3_settle 12 = .ok (.iload_n 2, 1) := by decide +kernel
theorem dX3_settle_13 : decode cX3_settle 13 = .ok (.aaload, 1) := by decide +kernel
theorem dX3_settle_14 : decode cX3_settle 14 = .ok (.aload_n 0, 1) := by decide +kernel
theorem dX3_settle_15 : decode cX3_settle 15 = .ok (.getfield 35, 3) := by decide +kernel
theorem dX3_settle_18 : decode cX3_settle 18 = .ok (.aload_n 0, 1) := by decide +kernel
theorem dX3_settle_19 : decode cX3_settle 19 = .ok (.getfield 12, 3) := by decide +kernel
theorem dX3_settle_22 : decode cX3_settle 22 = .ok (.invokevirtual 27, 3) := by decide +kernel
theorem dX3_settle_25 : decode cX3_settle 25 = .ok (.aload_n 1, 1) := by decide +kernel
theorem dX3_settle_26 : decode cX3_settle 26 = .ok (.invokevirtual 39, 3) := by decide +kernel
theorem dX3_settle_29 : decode cX3_settle 29 = .ok (.iinc 2 1, 3) := by decide +kernel
theorem dX3_settle_32 : decode cX3_settle 32 = .ok (.goto (-30), 3) := by decide +kernel
theorem dX3_settle_35 : decode cX3_settle 35 = .ok (.return_, 1) := by decide +kernel
set_option maxRecDepth 20000 in
theorem ggX3_hearGrant_X2_accept : GoodIn wsX3_hearGrant wsX2_accept := goodIn_r _ [9, 10, 11, 12, 13, 14, 15, 16, 17, 18, 19, 20, 21, 22, 23, 24, 25, 26, 27, 28, 29, 30, 31, 32, 33, 34, 35, 36, 37, 38, 39, 40, 41, 42, 43, 44, 45, 46, 47, 48, 49, 50, 51, 52, 53, 54, 55, 56, 57, 58, 59, 60, 61, 62, 63, 64, 65, 66, 67, 68, 69, 70, 71, 72, 73, 74, 75, 76, 77, 78, 79, 80, 81, 82, 83, 84, 85, 86, 87, 99, 100, 101, 102, 103, 104, 105, 106, 107, 88, 89, 90, 91, 92, 93, 94, 95, 108, 109, 110, 111, 112, 113, 114] (by decide +kernel) (by decide +kernel)
set_option maxRecDepth 20000 in
theorem gX3_hearGrant_X2_accept : GoodIn wsX3_hearGrant (wsV RX3 49 RX2 yX2_accept wsX2_accept) := goodIn_app (goodIn_of _ (by decide +kernel)) ggX3_hearGrant_X2_accept
theorem dX3_hearGrant_0 : decode cX3_hearGrant 0 = .ok (.aload_n 1, 1) := by decide +kernel
theorem dX3_hearGrant_1 : decode cX3_hearGrant 1 = .ok (.getfield 43, 3) := by decide +kernel
theorem dX3_hearGrant_4 : decode cX3_hearGrant 4 = .ok (.aload_n 0, 1) := by decide +kernel
theorem dX3_hearGrant_5 : decode cX3_hearGrant 5 = .ok (.getfield 35, 3) := by decide +kernel
theorem dX3_hearGrant_8 : decode cX3_hearGrant 8 = .ok (.if_icmp .ne 23, 3) := by decide +kernel
theorem dX3_hearGrant_11 : decode cX3_hearGrant 11 = .ok (.aload_n 0, 1) := by decide +kernel
theorem dX3_hearGrant_12 : decode cX3_hearGrant 12 = .ok (.getfield 20, 3) := by decide +kernel
theorem dX3_hearGrant_15 : decode cX3_hearGrant 15 = .ok (.aload_n 1, 1) := by decide +kernel
theorem dX3_hearGrant_16 : decode cX3_hearGrant 16 = .ok (.getfield 46, 3) := by decide +kernel
theorem dX3_hearGrant_19 : decode cX3_hearGrant 19 = .ok (.aaload, 1) := by decide +kernel
theorem dX3_hearGrant_20 : decode cX3_hearGrant 20 = .ok (.aload_n 1, 1) := by decide +kernel
theorem dX3_hearGrant_21 : decode cX3_hearGrant 21 = .ok (.invokevirtual 49, 3) := by decide +kernel
theorem dX3_hearGrant_24 : decode cX3_hearGrant 24 = .ok (.ifCond .eq 7, 3) := by decide +kernel
theorem dX3_hearGrant_27 : decode cX3_hearGrant 27 = .ok (.iconst 1, 1) := by decide +kernel
theorem dX3_hearGrant_28 : decode cX3_hearGrant 28 = .ok (.goto 4, 3) := by decide +kernel
theorem dX3_hearGrant_31 : decode cX3_hearGrant 31 = .ok (.iconst 0, 1) := by decide +kernel
theorem dX3_hearGrant_32 : decode cX3_hearGrant 32 = .ok (.ireturn, 1) := by decide +kernel
set_option maxRecDepth 20000 in
theorem ggX3_startAnew_X2_clear : GoodIn wsX3_startAnew wsX2_clear := goodIn_r _ [7, 8, 9, 10, 11, 12, 13, 14, 15, 16, 17, 18, 19, 20, 21, 22, 23, 27, 28, 29, 30, 31, 32, 33, 34, 35, 36, 37, 38] (by decide +kernel) (by decide +kernel)
set_option maxRecDepth 20000 in
theorem gX3_startAnew_X2_clear : GoodIn wsX3_startAnew (wsV RX3 53 RX2 yX2_clear wsX2_clear) := goodIn_app (goodIn_of _ (by decide +kernel)) ggX3_startAnew_X2_clear
theorem dX3_startAnew_0 : decode cX3_startAnew 0 = .ok (.iconst 0, 1) := by decide +kernel
theorem dX3_startAnew_1 : decode cX3_startAnew 1 = .ok (.istore_n 1, 1) := by decide +kernel
theorem dX3_startAnew_2 : decode cX3_startAnew 2 = .ok (.iload_n 1, 1) := by decide +kernel
theorem dX3_startAnew_3 : decode cX3_startAnew 3 = .ok (.bipush 8, 2) := by decide +kernel
theorem dX3_startAnew_5 : decode cX3_startAnew 5 = .ok (.if_icmp .ge 18, 3) := by decide +kernel
theorem dX3_startAnew_8 : decode cX3_startAnew 8 = .ok (.aload_n 0, 1) := by decide +kernel
theorem dX3_startAnew_9 : decode cX3_startAnew 9 = .ok (.getfield 20, 3) := by decide +kernel
theorem dX3_startAnew_12 : decode cX3_startAnew 12 = .ok (.iload_n 1, 1) := by decide +kernel
theorem dX3_startAnew_13 : decode cX3_startAnew 13 = .ok (.aaload, 1) := by decide +kernel
theorem dX3_startAnew_14 : decode cX3_startAnew 14 = .ok (.invokevirtual 53, 3) := by decide +kernel
theorem dX3_startAnew_17 : decode cX3_startAnew 17 = .ok (.iinc 1 1, 3) := by decide +kernel
theorem dX3_startAnew_20 : decode cX3_startAnew 20 = .ok (.goto (-18), 3) := by decide +kernel
theorem dX3_startAnew_23 : decode cX3_startAnew 23 = .ok (.aload_n 0, 1) := by decide +kernel
theorem dX3_startAnew_24 : decode cX3_startAnew 24 = .ok (.dup, 1) := by decide +kernel
theorem dX3_startAnew_25 : decode cX3_startAnew 25 = .ok (.getfield 35, 3) := by decide +kernel
theorem dX3_startAnew_28 : decode cX3_startAnew 28 = .ok (.iconst 1, 1) := by decide +kernel
theorem dX3_startAnew_29 : decode cX3_startAnew 29 = .ok (.iadd, 1) := by decide +kernel
theorem dX3_startAnew_30 : decode cX3_startAnew 30 = .ok (.putfield 35, 3) := by decide +kernel
theorem dX3_startAnew_33 : decode cX3_startAnew 33 = .ok (.aload_n 0, 1) := by decide +kernel
theorem dX3_startAnew_34 : decode cX3_startAnew 34 = .ok (.getfield 35, 3) := by decide +kernel
theorem dX3_startAnew_37 : decode cX3_startAnew 37 = .ok (.ireturn, 1) := by decide +kernel
theorem dX4_init_0 : decode cX4_init 0 = .ok (.aload_n 0, 1) := by decide +kernel
theorem dX4_init_1 : decode cX4_init 1 = .ok (.invokespecial 1, 3) := by decide +kernel
theorem dX4_init_4 : decode cX4_init 4 = .ok (.aload_n 0, 1) := by decide +kernel
theorem dX4_init_5 : decode cX4_init 5 = .ok (.aload_n 1, 1) := by decide +kernel
theorem dX4_init_6 : decode cX4_init 6 = .ok (.getfield 7, 3) := by decide +kernel
theorem dX4_init_9 : decode cX4_init 9 = .ok (.putfield 13, 3) := by decide +kernel
theorem dX4_init_12 : decode cX4_init 12 = .ok (.aload_n 0, 1) := by decide +kernel
theorem dX4_init_13 : decode cX4_init 13 = .ok (.iload_n 2, 1) := by decide +kernel
theorem dX4_init_14 : decode cX4_init 14 = .ok (.putfield 16, 3) := by decide +kernel
theorem dX4_init_17 : decode cX4_init 17 = .ok (.aload_n 0, 1) := by decide +kernel
theorem dX4_init_18 : decode cX4_init 18 = .ok (.sipush 998, 3) := by decide +kernel
theorem dX4_init_21 : decode cX4_init 21 = .ok (.aload_n 1, 1) := by decide +kernel
theorem dX4_init_22 : decode cX4_init 22 = .ok (.getfield 19, 3) := by decide +kernel
theorem dX4_init_25 : decode cX4_init 25 = .ok (.imul, 1) := by decide +kernel
theorem dX4_init_26 : decode cX4_init 26 = .ok (.sipush 1000, 3) := by decide +kernel
theorem dX4_init_29 : decode cX4_init 29 = .ok (.idiv, 1) := by decide +kernel
theorem dX4_init_30 : decode cX4_init 30 = .ok (.putfield 22, 3) := by decide +kernel
theorem dX4_init_33 : decode cX4_init 33 = .ok (.aload_n 0, 1) := by decide +kernel
theorem dX4_init_34 : decode cX4_init 34 = .ok (.aload_n 1, 1) := by decide +kernel
theorem dX4_init_35 : decode cX4_init 35 = .ok (.getfield 25, 3) := by decide +kernel
theorem dX4_init_38 : decode cX4_init 38 = .ok (.putfield 28, 3) := by decide +kernel
theorem dX4_init_41 : decode cX4_init 41 = .ok (.return_, 1) := by decide +kernel
theorem dX4_isLive_0 : decode cX4_isLive 0 = .ok (.iload_n 1, 1) := by decide +kernel
theorem dX4_isLive_1 : decode cX4_isLive 1 = .ok (.aload_n 0, 1) := by decide +kernel
theorem dX4_isLive_2 : decode cX4_isLive 2 = .ok (.getfield 16, 3) := by decide +kernel
theorem dX4_isLive_5 : decode cX4_isLive 5 = .ok (.isub, 1) := by decide +kernel
theorem dX4_isLive_6 : decode cX4_isLive 6 = .ok (.aload_n 0, 1) := by decide +kernel
theorem dX4_isLive_7 : decode cX4_isLive 7 = .ok (.getfield 22, 3) := by decide +kernel
theorem dX4_isLive_10 : decode cX4_isLive 10 = .ok (.if_icmp .ge 7, 3) := by decide +kernel
theorem dX4_isLive_13 : decode cX4_isLive 13 = .ok (.iconst 1, 1) := by decide +kernel
theorem dX4_isLive_14 : decode cX4_isLive 14 = .ok (.goto 4, 3) := by decide +kernel
theorem dX4_isLive_17 : decode cX4_isLive 17 = .ok (.iconst 0, 1) := by decide +kernel
theorem dX4_isLive_18 : decode cX4_isLive 18 = .ok (.ireturn, 1) := by decide +kernel
theorem dX4_isHalfOver_0 : decode cX4_isHalfOver 0 = .ok (.iconst 2, 1) := by decide +kernel
theorem dX4_isHalfOver_1 : decode cX4_isHalfOver 1 = .ok (.iload_n 1, 1) := by decide +kernel
theorem dX4_isHalfOver_2 : decode cX4_isHalfOver 2 = .ok (.aload_n 0, 1) := by decide +kernel
theorem dX4_isHalfOver_3 : decode cX4_isHalfOver 3 = .ok (.getfield 16, 3) := by decide +kernel
theorem dX4_isHalfOver_6 : decode cX4_isHalfOver 6 = .ok (.isub, 1) := by decide +kernel
theorem dX4_isHalfOver_7 : decode cX4_isHalfOver 7 = .ok (.imul, 1) := by decide +kernel
theorem dX4_isHalfOver_8 : decode cX4_isHalfOver 8 = .ok (.aload_n 0, 1) := by decide +kernel
theorem dX4_isHalfOver_9 : decode cX4_isHalfOver 9 = .ok (.getfield 22, 3) := by decide +kernel
theorem dX4_isHalfOver_12 : decode cX4_isHalfOver 12 = .ok (.if_icmp .lt 7, 3) := by decide +kernel
theorem dX4_isHalfOver_15 : decode cX4_isHalfOver 15 = .ok (.iconst 1, 1) := by decide +kernel
theorem dX4_isHalfOver_16 : decode cX4_isHalfOver 16 = .ok (.goto 4, 3) := by decide +kernel
theorem dX4_isHalfOver_19 : decode cX4_isHalfOver 19 = .ok (.iconst 0, 1) := by decide +kernel
theorem dX4_isHalfOver_20 : decode cX4_isHalfOver 20 = .ok (.ireturn, 1) := by decide +kernel
theorem dX4_end_0 : decode cX4_end 0 = .ok (.aload_n 0, 1) := by decide +kernel
theorem dX4_end_1 : decode cX4_end 1 = .ok (.getfield 16, 3) := by decide +kernel
theorem dX4_end_4 : decode cX4_end 4 = .ok (.aload_n 0, 1) := by decide +kernel
theorem dX4_end_5 : decode cX4_end 5 = .ok (.getfield 22, 3) := by decide +kernel
theorem dX4_end_8 : decode cX4_end 8 = .ok (.iadd, 1) := by decide +kernel
theorem dX4_end_9 : decode cX4_end 9 = .ok (.ireturn, 1) := by decide +kernel
theorem dX5_init_0 : decode cX5_init 0 = .ok (.aload_n 0, 1) := by decide +kernel
theorem dX5_init_1 : decode cX5_init 1 = .ok (.invokespecial 1, 3) := by decide +kernel
theorem dX5_init_4 : decode cX5_init 4 = .ok (.aload_n 0, 1) := by decide +kernel
theorem dX5_init_5 : decode cX5_init 5 = .ok (.iload_n 1, 1) := by decide +kernel
theorem dX5_init_6 : decode cX5_init 6 = .ok (.putfield 7, 3) := by decide +kernel
theorem dX5_init_9 : decode cX5_init 9 = .ok (.aload_n 0, 1) := by decide +kernel
theorem dX5_init_10 : decode cX5_init 10 = .ok (.iload_n 2, 1) := by decide +kernel
theorem dX5_init_11 : decode cX5_init 11 = .ok (.putfield 13, 3) := by decide +kernel
theorem dX5_init_14 : decode cX5_init 14 = .ok (.aload_n 0, 1) := by decide +kernel
theorem dX5_init_15 : decode cX5_init 15 = .ok (.iload_n 3, 1) := by decide +kernel
theorem dX5_init_16 : decode cX5_init 16 = .ok (.putfield 16, 3) := by decide +kernel
theorem dX5_init_19 : decode cX5_init 19 = .ok (.return_, 1) := by decide +kernel
theorem dX6_init_0 : decode cX6_init 0 = .ok (.aload_n 0, 1) := by decide +kernel
theorem dX6_init_1 : decode cX6_init 1 = .ok (.invokespecial 3, 3) := by decide +kernel
theorem dX6_init_4 : decode cX6_init 4 = .ok (.aload_n 0, 1) := by decide +kernel
theorem dX6_init_5 : decode cX6_init 5 = .ok (.iconst 0, 1) := by decide +kernel
theorem dX6_init_6 : decode cX6_init 6 = .ok (.putfield 9, 3) := by decide +kernel
theorem dX6_init_9 : decode cX6_init 9 = .ok (.aload_n 0, 1) := by decide +kernel
theorem dX6_init_10 : decode cX6_init 10 = .ok (.iload_n 1, 1) := by decide +kernel
theorem dX6_init_11 : decode cX6_init 11 = .ok (.putfield 15, 3) := by decide +kernel
theorem dX6_init_14 : decode cX6_init 14 = .ok (.aload_n 0, 1) := by decide +kernel
theorem dX6_init_15 : decode cX6_init 15 = .ok (.iload_n 2, 1) := by decide +kernel
theorem dX6_init_16 : decode cX6_init 16 = .ok (.putfield 18, 3) := by decide +kernel
theorem dX6_init_19 : decode cX6_init 19 = .ok (.aload_n 0, 1) := by decide +kernel
theorem dX6_init_20 : decode cX6_init 20 = .ok (.iload_n 3, 1) := by decide +kernel
theorem dX6_init_21 : decode cX6_init 21 = .ok (.putfield 21, 3) := by decide +kernel
theorem dX6_init_24 : decode cX6_init 24 = .ok (.aload_n 0, 1) := by decide +kernel
theorem dX6_init_25 : decode cX6_init 25 = .ok (.iload 5, 2) := by decide +kernel
theorem dX6_init_27 : decode cX6_init 27 = .ok (.putfield 24, 3) := by decide +kernel
theorem dX6_init_30 : decode cX6_init 30 = .ok (.aload_n 0, 1) := by decide +kernel
theorem dX6_init_31 : decode cX6_init 31 = .ok (.iload 4, 2) := by decide +kernel
theorem dX6_init_33 : decode cX6_init 33 = .ok (.putfield 27, 3) := by decide +kernel
theorem dX6_init_36 : decode cX6_init 36 = .ok (.aload_n 0, 1) := by decide +kernel
theorem dX6_init_37 : decode cX6_init 37 = .ok (.iconst (-1), 1) := by decide +kernel
theorem dX6_init_38 : decode cX6_init 38 = .ok (.putfield 30, 3) := by decide +kernel
theorem dX6_init_41 : decode cX6_init 41 = .ok (.aload_n 0, 1) := by decide +kernel
theorem dX6_init_42 : decode cX6_init 42 = .ok (.iconst 0, 1) := by decide +kernel
theorem dX6_init_43 : decode cX6_init 43 = .ok (.putfield 33, 3) := by decide +kernel
theorem dX6_init_46 : decode cX6_init 46 = .ok (.return_, 1) := by decide +kernel
theorem dX6_init__0 : decode cX6_init_ 0 = .ok (.aload_n 0, 1) := by decide +kernel
theorem dX6_init__1 : decode cX6_init_ 1 = .ok (.invokespecial 3, 3) := by decide +kernel
theorem dX6_init__4 : decode cX6_init_ 4 = .ok (.aload_n 0, 1) := by decide +kernel
theorem dX6_init__5 : decode cX6_init_ 5 = .ok (.iconst 1, 1) := by decide +kernel
theorem dX6_init__6 : decode cX6_init_ 6 = .ok (.putfield 9, 3) := by decide +kernel
theorem dX6_init__9 : decode cX6_init_ 9 = .ok (.aload_n 0, 1) := by decide +kernel
theorem dX6_init__10 : decode cX6_init_ 10 = .ok (.aload_n 1, 1) := by decide +kernel
theorem dX6_init__11 : decode cX6_init_ 11 = .ok (.getfield 15, 3) := by decide +kernel
theorem dX6_init__14 : decode cX6_init_ 14 = .ok (.putfield 15, 3) := by decide +kernel
theorem dX6_init__17 : decode cX6_init_ 17 = .ok (.aload_n 0, 1) := by decide +kernel
theorem dX6_init__18 : decode cX6_init_ 18 = .ok (.aload_n 1, 1) := by decide +kernel
theorem dX6_init__19 : decode cX6_init_ 19 = .ok (.getfield 18, 3) := by decide +kernel
theorem dX6_init__22 : decode cX6_init_ 22 = .ok (.putfield 18, 3) := by decide +kernel
theorem dX6_init__25 : decode cX6_init_ 25 = .ok (.aload_n 0, 1) := by decide +kernel
theorem dX6_init__26 : decode cX6_init_ 26 = .ok (.aload_n 1, 1) := by decide +kernel
theorem dX6_init__27 : decode cX6_init_ 27 = .ok (.getfield 21, 3) := by decide +kernel
theorem dX6_init__30 : decode cX6_init_ 30 = .ok (.putfield 21, 3) := by decide +kernel
theorem dX6_init__33 : decode cX6_init_ 33 = .ok (.aload_n 0, 1) := by decide +kernel
theorem dX6_init__34 : decode cX6_init_ 34 = .ok (.iload_n 2, 1) := by decide +kernel
theorem dX6_init__35 : decode cX6_init_ 35 = .ok (.putfield 24, 3) := by decide +kernel
theorem dX6_init__38 : decode cX6_init_ 38 = .ok (.aload_n 0, 1) := by decide +kernel
theorem dX6_init__39 : decode cX6_init_ 39 = .ok (.aload_n 1, 1) := by decide +kernel
theorem dX6_init__40 : decode cX6_init_ 40 = .ok (.getfield 27, 3) := by decide +kernel
theorem dX6_init__43 : decode cX6_init_ 43 = .ok (.putfield 27, 3) := by decide +kernel
theorem dX6_init__46 : decode cX6_init_ 46 = .ok (.aload_n 0, 1) := by decide +kernel
theorem dX6_init__47 : decode cX6_init_ 47 = .ok (.iload_n 3, 1) := by decide +kernel
theorem dX6_init__48 : decode cX6_init_ 48 = .ok (.putfield 30, 3) := by decide +kernel
theorem dX6_init__51 : decode cX6_init_ 51 = .ok (.aload_n 0, 1) := by decide +kernel
theorem dX6_init__52 : decode cX6_init_ 52 = .ok (.iload 4, 2) := by decide +kernel
theorem dX6_init__54 : decode cX6_init_ 54 = .ok (.putfield 33, 3) := by decide +kernel
theorem dX6_init__57 : decode cX6_init_ 57 = .ok (.return_, 1) := by decide +kernel
theorem dX6_init___0 : decode cX6_init__ 0 = .ok (.aload_n 0, 1) := by decide +kernel
theorem dX6_init___1 : decode cX6_init__ 1 = .ok (.invokespecial 3, 3) := by decide +kernel
theorem dX6_init___4 : decode cX6_init__ 4 = .ok (.aload_n 0, 1) := by decide +kernel
theorem dX6_init___5 : decode cX6_init__ 5 = .ok (.iconst 2, 1) := by decide +kernel
theorem dX6_init___6 : decode cX6_init__ 6 = .ok (.putfield 9, 3) := by decide +kernel
theorem dX6_init___9 : decode cX6_init__ 9 = .ok (.aload_n 0, 1) := by decide +kernel
theorem dX6_init___10 : decode cX6_init__ 10 = .ok (.iload_n 1, 1) := by decide +kernel
theorem dX6_init___11 : decode cX6_init__ 11 = .ok (.putfield 15, 3) := by decide +kernel
theorem dX6_init___14 : decode cX6_init__ 14 = .ok (.aload_n 0, 1) := by decide +kernel
theorem dX6_init___15 : decode cX6_init__ 15 = .ok (.iload_n 2, 1) := by decide +kernel
theorem dX6_init___16 : decode cX6_init__ 16 = .ok (.putfield 18, 3) := by decide +kernel
theorem dX6_init___19 : decode cX6_init__ 19 = .ok (.aload_n 0, 1) := by decide +kernel
theorem dX6_init___20 : decode cX6_init__ 20 = .ok (.iload_n 3, 1) := by decide +kernel
theorem dX6_init___21 : decode cX6_init__ 21 = .ok (.putfield 21, 3) := by decide +kernel
theorem dX6_init___24 : decode cX6_init__ 24 = .ok (.aload_n 0, 1) := by decide +kernel
theorem dX6_init___25 : decode cX6_init__ 25 = .ok (.aload 4, 2) := by decide +kernel
theorem dX6_init___27 : decode cX6_init__ 27 = .ok (.getfield 36, 3) := by decide +kernel
theorem dX6_init___30 : decode cX6_init__ 30 = .ok (.putfield 24, 3) := by decide +kernel
theorem dX6_init___33 : decode cX6_init__ 33 = .ok (.aload_n 0, 1) := by decide +kernel
theorem dX6_init___34 : decode cX6_init__ 34 = .ok (.iconst (-1), 1) := by decide +kernel
theorem dX6_init___35 : decode cX6_init__ 35 = .ok (.putfield 27, 3) := by decide +kernel
theorem dX6_init___38 : decode cX6_init__ 38 = .ok (.aload_n 0, 1) := by decide +kernel
theorem dX6_init___39 : decode cX6_init__ 39 = .ok (.aload 4, 2) := by decide +kernel
theorem dX6_init___41 : decode cX6_init__ 41 = .ok (.getfield 39, 3) := by decide +kernel
theorem dX6_init___44 : decode cX6_init__ 44 = .ok (.putfield 30, 3) := by decide +kernel
theorem dX6_init___47 : decode cX6_init__ 47 = .ok (.aload_n 0, 1) := by decide +kernel
theorem dX6_init___48 : decode cX6_init__ 48 = .ok (.iconst 0, 1) := by decide +kernel
theorem dX6_init___49 : decode cX6_init__ 49 = .ok (.putfield 33, 3) := by decide +kernel
theorem dX6_init___52 : decode cX6_init__ 52 = .ok (.return_, 1) := by decide +kernel
theorem dX7_init_0 : decode cX7_init 0 = .ok (.aload_n 0, 1) := by decide +kernel
theorem dX7_init_1 : decode cX7_init 1 = .ok (.invokespecial 3, 3) := by decide +kernel
theorem dX7_init_4 : decode cX7_init 4 = .ok (.aload_n 0, 1) := by decide +kernel
theorem dX7_init_5 : decode cX7_init 5 = .ok (.sipush 300, 3) := by decide +kernel
theorem dX7_init_8 : decode cX7_init 8 = .ok (.anewarray 9, 3) := by decide +kernel
theorem dX7_init_11 : decode cX7_init 11 = .ok (.putfield 11, 3) := by decide +kernel
theorem dX7_init_14 : decode cX7_init 14 = .ok (.return_, 1) := by decide +kernel
theorem dX7_send_0 : decode cX7_send 0 = .ok (.aload_n 0, 1) := by decide +kernel
theorem dX7_send_1 : decode cX7_send 1 = .ok (.getfield 17, 3) := by decide +kernel
theorem dX7_send_4 : decode cX7_send 4 = .ok (.sipush 300, 3) := by decide +kernel
theorem dX7_send_7 : decode cX7_send 7 = .ok (.if_icmp .ge 23, 3) := by decide +kernel
theorem dX7_send_10 : decode cX7_send 10 = .ok (.aload_n 0, 1) := by decide +kernel
theorem dX7_send_11 : decode cX7_send 11 = .ok (.getfield 11, 3) := by decide +kernel
theorem dX7_send_14 : decode cX7_send 14 = .ok (.aload_n 0, 1) := by decide +kernel
theorem dX7_send_15 : decode cX7_send 15 = .ok (.getfield 17, 3) := by decide +kernel
theorem dX7_send_18 : decode cX7_send 18 = .ok (.aload_n 1, 1) := by decide +kernel
theorem dX7_send_19 : decode cX7_send 19 = .ok (.aastore, 1) := by decide +kernel
theorem dX7_send_20 : decode cX7_send 20 = .ok (.aload_n 0, 1) := by decide +kernel
theorem dX7_send_21 : decode cX7_send 21 = .ok (.dup, 1) := by decide +kernel
theorem dX7_send_22 : decode cX7_send 22 = .ok (.getfield 17, 3) := by decide +kernel
theorem dX7_send_25 : decode cX7_send 25 = .ok (.iconst 1, 1) := by decide +kernel
theorem dX7_send_26 : decode cX7_send 26 = .ok (.iadd, 1) := by decide +kernel
theorem dX7_send_27 : decode cX7_send 27 = .ok (.putfield 17, 3) := by decide +kernel
theorem dX7_send_30 : decode cX7_send 30 = .ok (.return_, 1) := by decide +kernel
theorem dX7_find_0 : decode cX7_find 0 = .ok (.iload_n 1, 1) := by decide +kernel
theorem dX7_find_1 : decode cX7_find 1 = .ok (.ifCond .lt 20, 3) := by decide +kernel
theorem dX7_find_4 : decode cX7_find 4 = .ok (.iload_n 1, 1) := by decide +kernel
theorem dX7_find_5 : decode cX7_find 5 = .ok (.aload_n 0, 1) := by decide +kernel
theorem dX7_find_6 : decode cX7_find 6 = .ok (.getfield 17, 3) := by decide +kernel
theorem dX7_find_9 : decode cX7_find 9 = .ok (.if_icmp .ge 12, 3) := by decide +kernel
theorem dX7_find_12 : decode cX7_find 12 = .ok (.aload_n 0, 1) := by decide +kernel
theorem dX7_find_13 : decode cX7_find 13 = .ok (.getfield 11, 3) := by decide +kernel
theorem dX7_find_16 : decode cX7_find 16 = .ok (.iload_n 1, 1) := by decide +kernel
theorem dX7_find_17 : decode cX7_find 17 = .ok (.aaload, 1) := by decide +kernel
theorem dX7_find_18 : decode cX7_find 18 = .ok (.goto 4, 3) := by decide +kernel
theorem dX7_find_21 : decode cX7_find 21 = .ok (.aconst_null, 1) := by decide +kernel
theorem dX7_find_22 : decode cX7_find 22 = .ok (.areturn, 1) := by decide +kernel
theorem dX7_discard_0 : decode cX7_discard 0 = .ok (.iload_n 1, 1) := by decide +kernel
theorem dX7_discard_1 : decode cX7_discard 1 = .ok (.ifCond .lt 18, 3) := by decide +kernel
theorem dX7_discard_4 : decode cX7_discard 4 = .ok (.iload_n 1, 1) := by decide +kernel
theorem dX7_discard_5 : decode cX7_discard 5 = .ok (.aload_n 0, 1) := by decide +kernel
theorem dX7_discard_6 : decode cX7_discard 6 = .ok (.getfield 17, 3) := by decide +kernel
theorem dX7_discard_9 : decode cX7_discard 9 = .ok (.if_icmp .ge 10, 3) := by decide +kernel
theorem dX7_discard_12 : decode cX7_discard 12 = .ok (.aload_n 0, 1) := by decide +kernel
theorem dX7_discard_13 : decode cX7_discard 13 = .ok (.getfield 11, 3) := by decide +kernel
theorem dX7_discard_16 : decode cX7_discard 16 = .ok (.iload_n 1, 1) := by decide +kernel
theorem dX7_discard_17 : decode cX7_discard 17 = .ok (.aconst_null, 1) := by decide +kernel
theorem dX7_discard_18 : decode cX7_discard 18 = .ok (.aastore, 1) := by decide +kernel
theorem dX7_discard_19 : decode cX7_discard 19 = .ok (.return_, 1) := by decide +kernel
set_option maxRecDepth 20000 in
theorem ggX8_init_X9_init : GoodIn wsX8_init wsX9_init := goodIn_r _ [20, 21, 2, 3, 22, 49, 50] (by decide +kernel) (by decide +kernel)
set_option maxRecDepth 20000 in
theorem gX8_init_X9_init_n11 : GoodIn wsX8_init (wsX9_init) := ggX8_init_X9_init
set_option maxRecDepth 20000 in
theorem ggX8_init_X1_init : GoodIn wsX8_init wsX1_init := goodIn_r _ [24, 25, 2, 3, 26, 27, 28, 29, 30, 31, 32, 33, 34, 35, 36, 37, 38, 39, 40, 41, 42, 43, 44, 67, 68, 69, 57, 58, 59, 60, 61, 62] (by decide +kernel) (by decide +kernel)
set_option maxRecDepth 20000 in
theorem gX8_init_X1_init_n38 : GoodIn wsX8_init (wsX1_init) := ggX8_init_X1_init
set_option maxRecDepth 20000 in
theorem ggX8_init_X0_init : GoodIn wsX8_init wsX0_init := goodIn_r _ [46, 47, 2, 3, 48, 63, 64, 65, 66] (by decide +kernel) (by decide +kernel)
set_option maxRecDepth 20000 in
theorem gX8_init_X0_init_n39 : GoodIn wsX8_init (wsX0_init) := ggX8_init_X0_init
theorem dX8_init_0 : decode cX8_init 0 = .ok (.aload_n 0, 1) := by decide +kernel
theorem dX8_init_1 : decode cX8_init 1 = .ok (.invokespecial 3, 3) := by decide +kernel
theorem dX8_init_4 : decode cX8_init 4 = .ok (.aload_n 0, 1) := by decide +kernel
theorem dX8_init_5 : decode cX8_init 5 = .ok (.new 9, 3) := by decide +kernel
theorem dX8_init_8 : decode cX8_init 8 = .ok (.dup, 1) := by decide +kernel
theorem dX8_init_9 : decode cX8_init 9 = .ok (.invokespecial 11, 3) := by decide +kernel
theorem dX8_init_12 : decode cX8_init 12 = .ok (.putfield 12, 3) := by decide +kernel
theorem dX8_init_15 : decode cX8_init 15 = .ok (.aload_n 0, 1) := by decide +kernel
theorem dX8_init_16 : decode cX8_init 16 = .ok (.bipush 8, 2) := by decide +kernel
theorem dX8_init_18 : decode cX8_init 18 = .ok (.anewarray 18, 3) := by decide +kernel
theorem dX8_init_21 : decode cX8_init 21 = .ok (.putfield 20, 3) := by decide +kernel
theorem dX8_init_24 : decode cX8_init 24 = .ok (.aload_n 0, 1) := by decide +kernel
theorem dX8_init_25 : decode cX8_init 25 = .ok (.bipush 48, 2) := by decide +kernel
theorem dX8_init_27 : decode cX8_init 27 = .ok (.anewarray 24, 3) := by decide +kernel
theorem dX8_init_30 : decode cX8_init 30 = .ok (.putfield 26, 3) := by decide +kernel
theorem dX8_init_33 : decode cX8_init 33 = .ok (.aload_n 0, 1) := by decide +kernel
theorem dX8_init_34 : decode cX8_init 34 = .ok (.bipush 6, 2) := by decide +kernel
theorem dX8_init_36 : decode cX8_init 36 = .ok (.newarray .int, 2) := by decide +kernel
theorem dX8_init_38 : decode cX8_init 38 = .ok (.putfield 30, 3) := by decide +kernel
theorem dX8_init_41 : decode cX8_init 41 = .ok (.aload_n 0, 1) := by decide +kernel
theorem dX8_init_42 : decode cX8_init 42 = .ok (.sipush 2000, 3) := by decide +kernel
theorem dX8_init_45 : decode cX8_init 45 = .ok (.putfield 34, 3) := by decide +kernel
theorem dX8_init_48 : decode cX8_init 48 = .ok (.iconst 0, 1) := by decide +kernel
theorem dX8_init_49 : decode cX8_init 49 = .ok (.istore_n 1, 1) := by decide +kernel
theorem dX8_init_50 : decode cX8_init 50 = .ok (.iload_n 1, 1) := by decide +kernel
theorem dX8_init_51 : decode cX8_init 51 = .ok (.bipush 8, 2) := by decide +kernel
theorem dX8_init_53 : decode cX8_init 53 = .ok (.if_icmp .ge 22, 3) := by decide +kernel
theorem dX8_init_56 : decode cX8_init 56 = .ok (.aload_n 0, 1) := by decide +kernel
theorem dX8_init_57 : decode cX8_init 57 = .ok (.getfield 20, 3) := by decide +kernel
theorem dX8_init_60 : decode cX8_init 60 = .ok (.iload_n 1, 1) := by decide +kernel
theorem dX8_init_61 : decode cX8_init 61 = .ok (.new 18, 3) := by decide +kernel
theorem dX8_init_64 : decode cX8_init 64 = .ok (.dup, 1) := by decide +kernel
theorem dX8_init_65 : decode cX8_init 65 = .ok (.invokespecial 38, 3) := by decide +kernel
theorem dX8_init_68 : decode cX8_init 68 = .ok (.aastore, 1) := by decide +kernel
theorem dX8_init_69 : decode cX8_init 69 = .ok (.iinc 1 1, 3) := by decide +kernel
theorem dX8_init_72 : decode cX8_init 72 = .ok (.goto (-22), 3) := by decide +kernel
theorem dX8_init_75 : decode cX8_init 75 = .ok (.iconst 0, 1) := by decide +kernel
theorem dX8_init_76 : decode cX8_init 76 = .ok (.istore_n 1, 1) := by decide +kernel
theorem dX8_init_77 : decode cX8_init 77 = .ok (.iload_n 1, 1) := by decide +kernel
theorem dX8_init_78 : decode cX8_init 78 = .ok (.bipush 48, 2) := by decide +kernel
theorem dX8_init_80 : decode cX8_init 80 = .ok (.if_icmp .ge 22, 3) := by decide +kernel
theorem dX8_init_83 : decode cX8_init 83 = .ok (.aload_n 0, 1) := by decide +kernel
theorem dX8_init_84 : decode cX8_init 84 = .ok (.getfield 26, 3) := by decide +kernel
theorem dX8_init_87 : decode cX8_init 87 = .ok (.iload_n 1, 1) := by decide +kernel
theorem dX8_init_88 : decode cX8_init 88 = .ok (.new 24, 3) := by decide +kernel
theorem dX8_init_91 : decode cX8_init 91 = .ok (.dup, 1) := by decide +kernel
theorem dX8_init_92 : decode cX8_init 92 = .ok (.invokespecial 39, 3) := by decide +kernel
theorem dX8_init_95 : decode cX8_init 95 = .ok (.aastore, 1) := by decide +kernel
theorem dX8_init_96 : decode cX8_init 96 = .ok (.iinc 1 1, 3) := by decide +kernel
theorem dX8_init_99 : decode cX8_init 99 = .ok (.goto (-22), 3) := by decide +kernel
theorem dX8_init_102 : decode cX8_init 102 = .ok (.return_, 1) := by decide +kernel
theorem dX8_accountOf_0 : decode cX8_accountOf 0 = .ok (.aload_n 0, 1) := by decide +kernel
theorem dX8_accountOf_1 : decode cX8_accountOf 1 = .ok (.getfield 26, 3) := by decide +kernel
theorem dX8_accountOf_4 : decode cX8_accountOf 4 = .ok (.iload_n 1, 1) := by decide +kernel
theorem dX8_accountOf_5 : decode cX8_accountOf 5 = .ok (.bipush 8, 2) := by decide +kernel
theorem dX8_accountOf_7 : decode cX8_accountOf 7 = .ok (.imul, 1) := by decide +kernel
theorem dX8_accountOf_8 : decode cX8_accountOf 8 = .ok (.iload_n 2, 1) := by decide +kernel
theorem dX8_accountOf_9 : decode cX8_accountOf 9 = .ok (.iadd, 1) := by decide +kernel
theorem dX8_accountOf_10 : decode cX8_accountOf 10 = .ok (.aaload, 1) := by decide +kernel
theorem dX8_accountOf_11 : decode cX8_accountOf 11 = .ok (.areturn, 1) := by decide +kernel
set_option maxRecDepth 20000 in
theorem ggX8_advance_X9_now : GoodIn wsX8_advance wsX9_now := goodIn_r _ [7, 8, 9, 91, 92] (by decide +kernel) (by decide +kernel)
set_option maxRecDepth 20000 in
theorem gX8_advance_X9_now : GoodIn wsX8_advance (wsV RX8 40 RX9 yX9_now wsX9_now) := goodIn_app (goodIn_of _ (by decide +kernel)) ggX8_advance_X9_now
set_option maxRecDepth 20000 in
theorem ggX8_advance_X9_advance : GoodIn wsX8_advance wsX9_advance := goodIn_r _ [13, 8, 14, 91, 92] (by decide +kernel) (by decide +kernel)
set_option maxRecDepth 20000 in
theorem gX8_advance_X9_advance : GoodIn wsX8_advance (wsV RX8 44 RX9 yX9_advance wsX9_advance) := goodIn_app (goodIn_of _ (by decide +kernel)) ggX8_advance_X9_advance
set_option maxRecDepth 20000 in
theorem ggX8_advance_X1_pass : GoodIn wsX8_advance wsX1_pass := goodIn_r _ [19, 20, 21, 22, 23, 24, 25, 26, 27, 28, 29, 30, 31, 32, 18, 33, 34, 35, 36, 37, 38, 39, 40, 41, 42, 43, 44, 45, 46, 47, 48, 49, 50, 51, 52, 53, 54, 55, 56, 57, 58, 59, 60, 61, 62, 63, 64, 65, 66, 67, 68, 69, 70, 71, 72, 73, 74, 75, 76, 77, 78, 79, 80, 81, 82, 83, 84, 93, 94, 95, 96, 97, 98, 99, 100, 101, 102, 103, 104] (by decide +kernel) (by decide +kernel)
set_option maxRecDepth 20000 in
theorem gX8_advance_X1_pass : GoodIn wsX8_advance (wsV RX8 48 RX1 yX1_pass wsX1_pass) := goodIn_app (goodIn_of _ (by decide +kernel)) ggX8_advance_X1_pass
theorem dX8_advance_0 : decode cX8_advance 0 = .ok (.aload_n 0, 1) := by decide +kernel
theorem dX8_advance_1 : decode cX8_advance 1 = .ok (.getfield 12, 3) := by decide +kernel
theorem dX8_advance_4 : decode cX8_advance 4 = .ok (.invokevirtual 40, 3) := by decide +kernel
theorem dX8_advance_7 : decode cX8_advance 7 = .ok (.istore_n 2, 1) := by decide +kernel
theorem dX8_advance_8 : decode cX8_advance 8 = .ok (.aload_n 0, 1) := by decide +kernel
theorem dX8_advance_9 : decode cX8_advance 9 = .ok (.getfield 12, 3) := by decide +kernel
theorem dX8_advance_12 : decode cX8_advance 12 = .ok (.iload_n 1, 1) := by decide +kernel
theorem dX8_advance_13 : decode cX8_advance 13 = .ok (.invokevirtual 44, 3) := by decide +kernel
theorem dX8_advance_16 : decode cX8_advance 16 = .ok (.iconst 0, 1) := by decide +kernel
theorem dX8_advance_17 : decode cX8_advance 17 = .ok (.istore_n 3, 1) := by decide +kernel
theorem dX8_advance_18 : decode cX8_advance 18 = .ok (.iload_n 3, 1) := by decide +kernel
theorem dX8_advance_19 : decode cX8_advance 19 = .ok (.bipush 8, 2) := by decide +kernel
theorem dX8_advance_21 : decode cX8_advance 21 = .ok (.if_icmp .ge 26, 3) := by decide +kernel
theorem dX8_advance_24 : decode cX8_advance 24 = .ok (.aload_n 0, 1) := by decide +kernel
theorem dX8_advance_25 : decode cX8_advance 25 = .ok (.getfield 20, 3) := by decide +kernel
theorem dX8_advance_28 : decode cX8_advance 28 = .ok (.iload_n 3, 1) := by decide +kernel
theorem dX8_advance_29 : decode cX8_advance 29 = .ok (.aaload, 1) := by decide +kernel
theorem dX8_advance_30 : decode cX8_advance 30 = .ok (.iload_n 2, 1) := by decide +kernel
theorem dX8_advance_31 : decode cX8_advance 31 = .ok (.aload_n 0, 1) := by decide +kernel
theorem dX8_advance_32 : decode cX8_advance 32 = .ok (.getfield 12, 3) := by decide +kernel
theorem dX8_advance_35 : decode cX8_advance 35 = .ok (.invokevirtual 40, 3) := by decide +kernel
theorem dX8_advance_38 : decode cX8_advance 38 = .ok (.invokevirtual 48, 3) := by decide +kernel
theorem dX8_advance_41 : decode cX8_advance 41 = .ok (.iinc 3 1, 3) := by decide +kernel
theorem dX8_advance_44 : decode cX8_advance 44 = .ok (.goto (-26), 3) := by decide +kernel
theorem dX8_advance_47 : decode cX8_advance 47 = .ok (.return_, 1) := by decide +kernel
set_option maxRecDepth 20000 in
theorem ggX8_hearAsk_X8_forgetAnswers : GoodIn wsX8_hearAsk wsX8_forgetAnswers := goodIn_r _ [11, 5, 12, 13, 14, 10, 15, 16, 163, 164, 165, 166, 157, 158, 159, 160, 161, 162] (by decide +kernel) (by decide +kernel)
set_option maxRecDepth 20000 in
theorem gX8_hearAsk_X8_forgetAnswers : GoodIn wsX8_hearAsk (wsV RX8 60 RX8 yX8_forgetAnswers wsX8_forgetAnswers) := goodIn_app (goodIn_of _ (by decide +kernel)) ggX8_hearAsk_X8_forgetAnswers
set_option maxRecDepth 20000 in
theorem ggX8_hearAsk_X8_accountOf : GoodIn wsX8_hearAsk wsX8_accountOf := goodIn_r _ [15, 16, 157, 158, 159, 160, 161, 162] (by decide +kernel) (by decide +kernel)
set_option maxRecDepth 20000 in
theorem gX8_hearAsk_X8_accountOf : GoodIn wsX8_hearAsk (wsV RX8 66 RX8 yX8_accountOf wsX8_accountOf) := goodIn_app (goodIn_of _ (by decide +kernel)) ggX8_hearAsk_X8_accountOf
set_option maxRecDepth 20000 in
theorem ggX8_hearAsk_X8_answerTo : GoodIn wsX8_hearAsk wsX8_answerTo := goodIn_r _ [20, 21, 22, 23, 24, 4, 25, 26, 27, 28, 29, 30, 31, 32, 33, 34, 35, 36, 37, 38, 39, 40, 41, 42, 43, 44, 45, 46, 47, 10, 48, 12, 13, 14, 15, 16, 49, 50, 51, 52, 53, 54, 55, 56, 57, 58, 59, 60, 61, 62, 63, 64, 65, 66, 67, 68, 69, 70, 71, 72, 73, 74, 75, 76, 77, 78, 79, 80, 81, 82, 83, 84, 85, 86, 87, 88, 89, 90, 91, 92, 93, 94, 95, 96, 97, 98, 99, 100, 101, 102, 103, 104, 105, 106, 107, 108, 109, 110, 111, 112, 113, 114, 115, 116, 117, 118, 119, 120, 121, 122, 123, 124, 125, 126, 127, 128, 129, 130, 131, 132, 133, 134, 135, 136, 137, 138, 139, 140, 141, 163, 164, 165, 166, 157, 158, 159, 160, 161, 162, 149, 150, 151, 152, 153, 154, 155, 156, 167, 168, 169, 170, 171, 172, 173, 174, 175, 176, 177, 178, 179, 180] (by decide +kernel) (by decide +kernel)
set_option maxRecDepth 20000 in
theorem gX8_hearAsk_X8_answerTo : GoodIn wsX8_hearAsk (wsV RX8 77 RX8 yX8_answerTo wsX8_answerTo) := goodIn_app (goodIn_of _ (by decide +kernel)) ggX8_hearAsk_X8_answerTo
set_option maxRecDepth 20000 in
theorem ggX8_hearAsk_X7_send : GoodIn wsX8_hearAsk wsX7_send := goodIn_r _ [146, 147, 148, 181, 182] (by decide +kernel) (by decide +kernel)
set_option maxRecDepth 20000 in
theorem gX8_hearAsk_X7_send : GoodIn wsX8_hearAsk (wsV RX8 81 RX7 yX7_send wsX7_send) := goodIn_app (goodIn_of _ (by decide +kernel)) ggX8_hearAsk_X7_send
theorem dX8_hearAsk_0 : decode cX8_hearAsk 0 = .ok (.aload_n 1, 1) := by decide +kernel
theorem dX8_hearAsk_1 : decode cX8_hearAsk 1 = .ok (.getfield 52, 3) := by decide +kernel
theorem dX8_hearAsk_4 : decode cX8_hearAsk 4 = .ok (.aload_n 0, 1) := by decide +kernel
theorem dX8_hearAsk_5 : decode cX8_hearAsk 5 = .ok (.getfield 30, 3) := by decide +kernel
theorem dX8_hearAsk_8 : decode cX8_hearAsk 8 = .ok (.aload_n 1, 1) := by decide +kernel
theorem dX8_hearAsk_9 : decode cX8_hearAsk 9 = .ok (.getfield 57, 3) := by decide +kernel
theorem dX8_hearAsk_12 : decode cX8_hearAsk 12 = .ok (.iaload, 1) := by decide +kernel
theorem dX8_hearAsk_13 : decode cX8_hearAsk 13 = .ok (.if_icmp .ge 5, 3) := by decide +kernel
theorem dX8_hearAsk_16 : decode cX8_hearAsk 16 = .ok (.iconst 0, 1) := by decide +kernel
theorem dX8_hearAsk_17 : decode cX8_hearAsk 17 = .ok (.ireturn, 1) := by decide +kernel
theorem dX8_hearAsk_18 : decode cX8_hearAsk 18 = .ok (.aload_n 1, 1) := by decide +kernel
theorem dX8_hearAsk_19 : decode cX8_hearAsk 19 = .ok (.getfield 52, 3) := by decide +kernel
theorem dX8_hearAsk_22 : decode cX8_hearAsk 22 = .ok (.aload_n 0, 1) := by decide +kernel
theorem dX8_hearAsk_23 : decode cX8_hearAsk 23 = .ok (.getfield 30, 3) := by decide +kernel
theorem dX8_hearAsk_26 : decode cX8_hearAsk 26 = .ok (.aload_n 1, 1) := by decide +kernel
theorem dX8_hearAsk_27 : decode cX8_hearAsk 27 = .ok (.getfield 57, 3) := by decide +kernel
theorem dX8_hearAsk_30 : decode cX8_hearAsk 30 = .ok (.iaload, 1) := by decide +kernel
theorem dX8_hearAsk_31 : decode cX8_hearAsk 31 = .ok (.if_icmp .le 24, 3) := by decide +kernel
theorem dX8_hearAsk_34 : decode cX8_hearAsk 34 = .ok (.aload_n 0, 1) := by decide +kernel
theorem dX8_hearAsk_35 : decode cX8_hearAsk 35 = .ok (.getfield 30, 3) := by decide +kernel
theorem dX8_hearAsk_38 : decode cX8_hearAsk 38 = .ok (.aload_n 1, 1) := by decide +kernel
theorem dX8_hearAsk_39 : decode cX8_hearAsk 39 = .ok (.getfield 57, 3) := by decide +kernel
theorem dX8_hearAsk_42 : decode cX8_hearAsk 42 = .ok (.aload_n 1, 1) := by decide +kernel
theorem dX8_hearAsk_43 : decode cX8_hearAsk 43 = .ok (.getfield 52, 3) := by decide +kernel
theorem dX8_hearAsk_46 : decode cX8_hearAsk 46 = .ok (.iastore, 1) := by decide +kernel
theorem dX8_hearAsk_47 : decode cX8_hearAsk 47 = .ok (.aload_n 0, 1) := by decide +kernel
theorem dX8_hearAsk_48 : decode cX8_hearAsk 48 = .ok (.aload_n 1, 1) := by decide +kernel
theorem dX8_hearAsk_49 : decode cX8_hearAsk 49 = .ok (.getfield 57, 3) := by decide +kernel
theorem dX8_hearAsk_52 : decode cX8_hearAsk 52 = .ok (.invokevirtual 60, 3) := by decide +kernel
theorem dX8_hearAsk_55 : decode cX8_hearAsk 55 = .ok (.aload_n 0, 1) := by decide +kernel
theorem dX8_hearAsk_56 : decode cX8_hearAsk 56 = .ok (.aload_n 1, 1) := by decide +kernel
theorem dX8_hearAsk_57 : decode cX8_hearAsk 57 = .ok (.getfield 57, 3) := by decide +kernel
theorem dX8_hearAsk_60 : decode cX8_hearAsk 60 = .ok (.aload_n 1, 1) := by decide +kernel
theorem dX8_hearAsk_61 : decode cX8_hearAsk 61 = .ok (.getfield 63, 3) := by decide +kernel
theorem dX8_hearAsk_64 : decode cX8_hearAsk 64 = .ok (.invokevirtual 66, 3) := by decide +kernel
theorem dX8_hearAsk_67 : decode cX8_hearAsk 67 = .ok (.astore_n 3, 1) := by decide +kernel
theorem dX8_hearAsk_68 : decode cX8_hearAsk 68 = .ok (.aload_n 3, 1) := by decide +kernel
theorem dX8_hearAsk_69 : decode cX8_hearAsk 69 = .ok (.getfield 70, 3) := by decide +kernel
theorem dX8_hearAsk_72 : decode cX8_hearAsk 72 = .ok (.ifnull 17, 3) := by decide +kernel
theorem dX8_hearAsk_75 : decode cX8_hearAsk 75 = .ok (.aload_n 1, 1) := by decide +kernel
theorem dX8_hearAsk_76 : decode cX8_hearAsk 76 = .ok (.getfield 74, 3) := by decide +kernel
theorem dX8_hearAsk_79 : decode cX8_hearAsk 79 = .ok (.aload_n 3, 1) := by decide +kernel
theorem dX8_hearAsk_80 : decode cX8_hearAsk 80 = .ok (.getfield 70, 3) := by decide +kernel
theorem dX8_hearAsk_83 : decode cX8_hearAsk 83 = .ok (.getfield 74, 3) := by decide +kernel
theorem dX8_hearAsk_86 : decode cX8_hearAsk 86 = .ok (.if_icmp .le 16, 3) := by decide +kernel
theorem dX8_hearAsk_89 : decode cX8_hearAsk 89 = .ok (.aload_n 3, 1) := by decide +kernel
theorem dX8_hearAsk_90 : decode cX8_hearAsk 90 = .ok (.aload_n 0, 1) := by decide +kernel
theorem dX8_hearAsk_91 : decode cX8_hearAsk 91 = .ok (.aload_n 1, 1) := by decide +kernel
theorem dX8_hearAsk_92 : decode cX8_hearAsk 92 = .ok (.aload_n 3, 1) := by decide +kernel
theorem dX8_hearAsk_93 : decode cX8_hearAsk 93 = .ok (.invokevirtual 77, 3) := by decide +kernel
theorem dX8_hearAsk_96 : decode cX8_hearAsk 96 = .ok (.putfield 70, 3) := by decide +kernel
theorem dX8_hearAsk_99 : decode cX8_hearAsk 99 = .ok (.goto 19, 3) := by decide +kernel
theorem dX8_hearAsk_102 : decode cX8_hearAsk 102 = .ok (.aload_n 1, 1) := by decide +kernel
theorem dX8_hearAsk_103 : decode cX8_hearAsk 103 = .ok (.getfield 74, 3) := by decide +kernel
theorem dX8_hearAsk_106 : decode cX8_hearAsk 106 = .ok (.aload_n 3, 1) := by decide +kernel
theorem dX8_hearAsk_107 : decode cX8_hearAsk 107 = .ok (.getfield 70, 3) := by decide +kernel
theorem dX8_hearAsk_110 : decode cX8_hearAsk 110 = .ok (.getfield 74, 3) := by decide +kernel
theorem dX8_hearAsk_113 : decode cX8_hearAsk 113 = .ok (.if_icmp .ge 5, 3) := by decide +kernel
theorem dX8_hearAsk_116 : decode cX8_hearAsk 116 = .ok (.iconst 0, 1) := by decide +kernel
theorem dX8_hearAsk_117 : decode cX8_hearAsk 117 = .ok (.ireturn, 1) := by decide +kernel
theorem dX8_hearAsk_118 : decode cX8_hearAsk 118 = .ok (.aload_n 2, 1) := by decide +kernel
theorem dX8_hearAsk_119 : decode cX8_hearAsk 119 = .ok (.aload_n 3, 1) := by decide +kernel
theorem dX8_hearAsk_120 : decode cX8_hearAsk 120 = .ok (.getfield 70, 3) := by decide +kernel
theorem dX8_hearAsk_123 : decode cX8_hearAsk 123 = .ok (.invokevirtual 81, 3) := by decide +kernel
theorem dX8_hearAsk_126 : decode cX8_hearAsk 126 = .ok (.iconst 1, 1) := by decide +kernel
theorem dX8_hearAsk_127 : decode cX8_hearAsk 127 = .ok (.ireturn, 1) := by decide +kernel
set_option maxRecDepth 20000 in
theorem ggX8_forgetAnswers_X8_accountOf : GoodIn wsX8_forgetAnswers wsX8_accountOf := goodIn_r _ [6, 7, 12, 13, 14, 15, 16, 17] (by decide +kernel) (by decide +kernel)
set_option maxRecDepth 20000 in
theorem gX8_forgetAnswers_X8_accountOf : GoodIn wsX8_forgetAnswers (wsV RX8 66 RX8 yX8_accountOf wsX8_accountOf) := goodIn_app (goodIn_of _ (by decide +kernel)) ggX8_forgetAnswers_X8_accountOf
theorem dX8_forgetAnswers_0 : decode cX8_forgetAnswers 0 = .ok (.iconst 0, 1) := by decide +kernel
theorem dX8_forgetAnswers_1 : decode cX8_forgetAnswers 1 = .ok (.istore_n 2, 1) := by decide +kernel
theorem dX8_forgetAnswers_2 : decode cX8_forgetAnswers 2 = .ok (.iload_n 2, 1) := by decide +kernel
theorem dX8_forgetAnswers_3 : decode cX8_forgetAnswers 3 = .ok (.bipush 8, 2) := by decide +kernel
theorem dX8_forgetAnswers_5 : decode cX8_forgetAnswers 5 = .ok (.if_icmp .ge 19, 3) := by decide +kernel
theorem dX8_forgetAnswers_8 : decode cX8_forgetAnswers 8 = .ok (.aload_n 0, 1) := by decide +kernel
theorem dX8_forgetAnswers_9 : decode cX8_forgetAnswers 9 = .ok (.iload_n 1, 1) := by decide +kernel
theorem dX8_forgetAnswers_10 : decode cX8_forgetAnswers 10 = .ok (.iload_n 2, 1) := by decide +kernel
theorem dX8_forgetAnswers_11 : decode cX8_forgetAnswers 11 = .ok (.invokevirtual 66, 3) := by decide +kernel
theorem dX8_forgetAnswers_14 : decode cX8_forgetAnswers 14 = .ok (.aconst_null, 1) := by decide +kernel
theorem dX8_forgetAnswers_15 : decode cX8_forgetAnswers 15 = .ok (.putfield 70, 3) := by decide +kernel
theorem dX8_forgetAnswers_18 : decode cX8_forgetAnswers 18 = .ok (.iinc 2 1, 3) := by decide +kernel
theorem dX8_forgetAnswers_21 : decode cX8_forgetAnswers 21 = .ok (.goto (-19), 3) := by decide +kernel
theorem dX8_forgetAnswers_24 : decode cX8_forgetAnswers 24 = .ok (.return_, 1) := by decide +kernel
set_option maxRecDepth 20000 in
theorem ggX8_answerTo_X9_now : GoodIn wsX8_answerTo wsX9_now := goodIn_r _ [17, 18, 19, 147, 148] (by decide +kernel) (by decide +kernel)
set_option maxRecDepth 20000 in
theorem gX8_answerTo_X9_now : GoodIn wsX8_answerTo (wsV RX8 40 RX9 yX9_now wsX9_now) := goodIn_app (goodIn_of _ (by decide +kernel)) ggX8_answerTo_X9_now
set_option maxRecDepth 20000 in
theorem ggX8_answerTo_X1_free : GoodIn wsX8_answerTo wsX1_free := goodIn_r _ [24, 25, 149, 150, 151, 152, 153, 154] (by decide +kernel) (by decide +kernel)
set_option maxRecDepth 20000 in
theorem gX8_answerTo_X1_free : GoodIn wsX8_answerTo (wsV RX8 94 RX1 yX1_free wsX1_free) := goodIn_app (goodIn_of _ (by decide +kernel)) ggX8_answerTo_X1_free
set_option maxRecDepth 20000 in
theorem ggX8_answerTo_X8_shareOf : GoodIn wsX8_answerTo wsX8_shareOf := goodIn_r _ [30, 2, 7, 31, 32, 33, 29, 34, 35, 13, 14, 15, 16, 17, 18, 19, 36, 37, 38, 39, 40, 41, 42, 133, 134, 135, 136, 137, 138, 129, 130, 131, 132, 147, 148] (by decide +kernel) (by decide +kernel)
set_option maxRecDepth 20000 in
theorem gX8_answerTo_X8_shareOf : GoodIn wsX8_answerTo (wsV RX8 103 RX8 yX8_shareOf wsX8_shareOf) := goodIn_app (goodIn_of _ (by decide +kernel)) ggX8_answerTo_X8_shareOf
set_option maxRecDepth 20000 in
theorem ggX8_answerTo_X6_init_ : GoodIn wsX8_answerTo wsX6_init_ := goodIn_r _ [45, 46, 47, 48, 49, 50, 51, 52, 53, 54, 55, 56, 139, 140, 141, 142, 143, 144, 145, 146] (by decide +kernel) (by decide +kernel)
set_option maxRecDepth 20000 in
theorem gX8_answerTo_X6_init_ : GoodIn wsX8_answerTo (wsX6_init_) := ggX8_answerTo_X6_init_
set_option maxRecDepth 20000 in
theorem ggX8_answerTo_X1_lend : GoodIn wsX8_answerTo wsX1_lend := goodIn_r _ [60, 25, 61, 62, 63, 64, 65, 66, 67, 68, 69, 47, 48, 70, 71, 72, 73, 74, 75, 76, 77, 78, 79, 80, 81, 82, 83, 84, 85, 86, 87, 88, 89, 90, 91, 92, 93, 94, 95, 96, 97, 98, 99, 100, 101, 102, 103, 104, 105, 106, 107, 108, 109, 110, 111, 112, 113, 114, 115, 116, 117, 118, 119, 120, 121, 122, 123, 124, 125, 126, 127, 128, 149, 150, 151, 152, 153, 154, 155, 156, 157, 158, 159, 160] (by decide +kernel) (by decide +kernel)
set_option maxRecDepth 20000 in
theorem gX8_answerTo_X1_lend : GoodIn wsX8_answerTo (wsV RX8 113 RX1 yX1_lend wsX1_lend) := goodIn_app (goodIn_of _ (by decide +kernel)) ggX8_answerTo_X1_lend
theorem dX8_answerTo_0 : decode cX8_answerTo 0 = .ok (.aload_n 2, 1) := by decide +kernel
theorem dX8_answerTo_1 : decode cX8_answerTo 1 = .ok (.iconst 1, 1) := by decide +kernel
theorem dX8_answerTo_2 : decode cX8_answerTo 2 = .ok (.putfield 87, 3) := by decide +kernel
theorem dX8_answerTo_5 : decode cX8_answerTo 5 = .ok (.aload_n 2, 1) := by decide +kernel
theorem dX8_answerTo_6 : decode cX8_answerTo 6 = .ok (.aload_n 0, 1) := by decide +kernel
theorem dX8_answerTo_7 : decode cX8_answerTo 7 = .ok (.getfield 12, 3) := by decide +kernel
theorem dX8_answerTo_10 : decode cX8_answerTo 10 = .ok (.invokevirtual 40, 3) := by decide +kernel
theorem dX8_answerTo_13 : decode cX8_answerTo 13 = .ok (.putfield 91, 3) := by decide +kernel
theorem dX8_answerTo_16 : decode cX8_answerTo 16 = .ok (.aload_n 0, 1) := by decide +kernel
theorem dX8_answerTo_17 : decode cX8_answerTo 17 = .ok (.getfield 20, 3) := by decide +kernel
theorem dX8_answerTo_20 : decode cX8_answerTo 20 = .ok (.aload_n 1, 1) := by decide +kernel
theorem dX8_answerTo_21 : decode cX8_answerTo 21 = .ok (.getfield 63, 3) := by decide +kernel
theorem dX8_answerTo_24 : decode cX8_answerTo 24 = .ok (.aaload, 1) := by decide +kernel
theorem dX8_answerTo_25 : decode cX8_answerTo 25 = .ok (.astore_n 3, 1) := by decide +kernel
theorem dX8_answerTo_26 : decode cX8_answerTo 26 = .ok (.aload_n 3, 1) := by decide +kernel
theorem dX8_answerTo_27 : decode cX8_answerTo 27 = .ok (.invokevirtual 94, 3) := by decide +kernel
theorem dX8_answerTo_30 : decode cX8_answerTo 30 = .ok (.istore 4, 2) := by decide +kernel
theorem dX8_answerTo_32 : decode cX8_answerTo 32 = .ok (.iload 4, 2) := by decide +kernel
theorem dX8_answerTo_34 : decode cX8_answerTo 34 = .ok (.aload_n 1, 1) := by decide +kernel
theorem dX8_answerTo_35 : decode cX8_answerTo 35 = .ok (.getfield 97, 3) := by decide +kernel
theorem dX8_answerTo_38 : decode cX8_answerTo 38 = .ok (.if_icmp .lt 10, 3) := by decide +kernel
theorem dX8_answerTo_41 : decode cX8_answerTo 41 = .ok (.aload_n 1, 1) := by decide +kernel
theorem dX8_answerTo_42 : decode cX8_answerTo 42 = .ok (.getfield 97, 3) := by decide +kernel
theorem dX8_answerTo_45 : decode cX8_answerTo 45 = .ok (.goto 17, 3) := by decide +kernel
theorem dX8_answerTo_48 : decode cX8_answerTo 48 = .ok (.aload_n 0, 1) := by decide +kernel
theorem dX8_answerTo_49 : decode cX8_answerTo 49 = .ok (.iload 4, 2) := by decide +kernel
theorem dX8_answerTo_51 : decode cX8_answerTo 51 = .ok (.aload_n 1, 1) := by decide +kernel
theorem dX8_answerTo_52 : decode cX8_answerTo 52 = .ok (.getfield 63, 3) := by decide +kernel
theorem dX8_answerTo_55 : decode cX8_answerTo 55 = .ok (.aload_n 2, 1) := by decide +kernel
theorem dX8_answerTo_56 : decode cX8_answerTo 56 = .ok (.getfield 100, 3) := by decide +kernel
theorem dX8_answerTo_59 : decode cX8_answerTo 59 = .ok (.invokevirtual 103, 3) := by decide +kernel
theorem dX8_answerTo_62 : decode cX8_answerTo 62 = .ok (.istore 5, 2) := by decide +kernel
theorem dX8_answerTo_64 : decode cX8_answerTo 64 = .ok (.iload 5, 2) := by decide +kernel
theorem dX8_answerTo_66 : decode cX8_answerTo 66 = .ok (.ifCond .gt 18, 3) := by decide +kernel
theorem dX8_answerTo_69 : decode cX8_answerTo 69 = .ok (.new 53, 3) := by decide +kernel
theorem dX8_answerTo_72 : decode cX8_answerTo 72 = .ok (.dup, 1) := by decide +kernel
theorem dX8_answerTo_73 : decode cX8_answerTo 73 = .ok (.aload_n 1, 1) := by decide +kernel
theorem dX8_answerTo_74 : decode cX8_answerTo 74 = .ok (.iconst 0, 1) := by decide +kernel
theorem dX8_answerTo_75 : decode cX8_answerTo 75 = .ok (.iconst (-1), 1) := by decide +kernel
theorem dX8_answerTo_76 : decode cX8_answerTo 76 = .ok (.aload_n 0, 1) := by decide +kernel
theorem dX8_answerTo_77 : decode cX8_answerTo 77 = .ok (.getfield 34, 3) := by decide +kernel
theorem dX8_answerTo_80 : decode cX8_answerTo 80 = .ok (.invokespecial 107, 3) := by decide +kernel
theorem dX8_answerTo_83 : decode cX8_answerTo 83 = .ok (.areturn, 1) := by decide +kernel
theorem dX8_answerTo_84 : decode cX8_answerTo 84 = .ok (.aload_n 0, 1) := by decide +kernel
theorem dX8_answerTo_85 : decode cX8_answerTo 85 = .ok (.getfield 110, 3) := by decide +kernel
theorem dX8_answerTo_88 : decode cX8_answerTo 88 = .ok (.istore 6, 2) := by decide +kernel
theorem dX8_answerTo_90 : decode cX8_answerTo 90 = .ok (.aload_n 0, 1) := by decide +kernel
theorem dX8_answerTo_91 : decode cX8_answerTo 91 = .ok (.dup, 1) := by decide +kernel
theorem dX8_answerTo_92 : decode cX8_answerTo 92 = .ok (.getfield 110, 3) := by decide +kernel
theorem dX8_answerTo_95 : decode cX8_answerTo 95 = .ok (.iconst 1, 1) := by decide +kernel
theorem dX8_answerTo_96 : decode cX8_answerTo 96 = .ok (.iadd, 1) := by decide +kernel
theorem dX8_answerTo_97 : decode cX8_answerTo 97 = .ok (.putfield 110, 3) := by decide +kernel
theorem dX8_answerTo_100 : decode cX8_answerTo 100 = .ok (.aload_n 3, 1) := by decide +kernel
theorem dX8_answerTo_101 : decode cX8_answerTo 101 = .ok (.iload 6, 2) := by decide +kernel
theorem dX8_answerTo_103 : decode cX8_answerTo 103 = .ok (.iload 5, 2) := by decide +kernel
theorem dX8_answerTo_105 : decode cX8_answerTo 105 = .ok (.aload_n 0, 1) := by decide +kernel
theorem dX8_answerTo_106 : decode cX8_answerTo 106 = .ok (.getfield 12, 3) := by decide +kernel
theorem dX8_answerTo_109 : decode cX8_answerTo 109 = .ok (.invokevirtual 40, 3) := by decide +kernel
theorem dX8_answerTo_112 : decode cX8_answerTo 112 = .ok (.aload_n 0, 1) := by decide +kernel
theorem dX8_answerTo_113 : decode cX8_answerTo 113 = .ok (.getfield 34, 3) := by decide +kernel
theorem dX8_answerTo_116 : decode cX8_answerTo 116 = .ok (.iadd, 1) := by decide +kernel
theorem dX8_answerTo_117 : decode cX8_answerTo 117 = .ok (.invokevirtual 113, 3) := by decide +kernel
theorem dX8_answerTo_120 : decode cX8_answerTo 120 = .ok (.new 53, 3) := by decide +kernel
theorem dX8_answerTo_123 : decode cX8_answerTo 123 = .ok (.dup, 1) := by decide +kernel
theorem dX8_answerTo_124 : decode cX8_answerTo 124 = .ok (.aload_n 1, 1) := by decide +kernel
theorem dX8_answerTo_125 : decode cX8_answerTo 125 = .ok (.iload 5, 2) := by decide +kernel
theorem dX8_answerTo_127 : decode cX8_answerTo 127 = .ok (.iload 6, 2) := by decide +kernel
theorem dX8_answerTo_129 : decode cX8_answerTo 129 = .ok (.aload_n 0, 1) := by decide +kernel
theorem dX8_answerTo_130 : decode cX8_answerTo 130 = .ok (.getfield 34, 3) := by decide +kernel
theorem dX8_answerTo_133 : decode cX8_answerTo 133 = .ok (.invokespecial 107, 3) := by decide +kernel
theorem dX8_answerTo_136 : decode cX8_answerTo 136 = .ok (.areturn, 1) := by decide +kernel
set_option maxRecDepth 20000 in
theorem ggX8_shareOf_X8_accountOf : GoodIn wsX8_shareOf wsX8_accountOf := goodIn_r _ [7, 8, 23, 24, 25, 26, 27, 28] (by decide +kernel) (by decide +kernel)
set_option maxRecDepth 20000 in
theorem gX8_shareOf_X8_accountOf : GoodIn wsX8_shareOf (wsV RX8 66 RX8 yX8_accountOf wsX8_accountOf) := goodIn_app (goodIn_of _ (by decide +kernel)) ggX8_shareOf_X8_accountOf
set_option maxRecDepth 20000 in
theorem ggX8_shareOf_X9_now : GoodIn wsX8_shareOf wsX9_now := goodIn_r _ [13, 14, 15, 33, 34] (by decide +kernel) (by decide +kernel)
set_option maxRecDepth 20000 in
theorem gX8_shareOf_X9_now : GoodIn wsX8_shareOf (wsV RX8 40 RX9 yX9_now wsX9_now) := goodIn_app (goodIn_of _ (by decide +kernel)) ggX8_shareOf_X9_now
set_option maxRecDepth 20000 in
theorem ggX8_shareOf_X0_askedOfLate : GoodIn wsX8_shareOf wsX0_askedOfLate := goodIn_r _ [20, 21, 22, 29, 30, 31, 32] (by decide +kernel) (by decide +kernel)
set_option maxRecDepth 20000 in
theorem gX8_shareOf_X0_askedOfLate : GoodIn wsX8_shareOf (wsV RX8 117 RX0 yX0_askedOfLate wsX0_askedOfLate) := goodIn_app (goodIn_of _ (by decide +kernel)) ggX8_shareOf_X0_askedOfLate
theorem dX8_shareOf_0 : decode cX8_shareOf 0 = .ok (.iconst 0, 1) := by decide +kernel
theorem dX8_shareOf_1 : decode cX8_shareOf 1 = .ok (.istore 4, 2) := by decide +kernel
theorem dX8_shareOf_3 : decode cX8_shareOf 3 = .ok (.iconst 0, 1) := by decide +kernel
end
section
theorem dX8_shareOf_4 : decode cX8_shareOf 4 = .ok (.istore 5, 2) := by decide +kernel
theorem dX8_shareOf_6 : decode cX8_shareOf 6 = .ok (.iload 5, 2) := by decide +kernel
theorem dX8_shareOf_8 : decode cX8_shareOf 8 = .ok (.bipush 6, 2) := by decide +kernel
theorem dX8_shareOf_10 : decode cX8_shareOf 10 = .ok (.if_icmp .ge 43, 3) := by decide +kernel
theorem dX8_shareOf_13 : decode cX8_shareOf 13 = .ok (.aload_n 0, 1) := by decide +kernel
theorem dX8_shareOf_14 : decode cX8_shareOf 14 = .ok (.iload 5, 2) := by decide +kernel
theorem dX8_shareOf_16 : decode cX8_shareOf 16 = .ok (.iload_n 2, 1) := by decide +kernel
theorem dX8_shareOf_17 : decode cX8_shareOf 17 = .ok (.invokevirtual 66, 3) := by decide +kernel
theorem dX8_shareOf_20 : decode cX8_shareOf 20 = .ok (.astore 6, 2) := by decide +kernel
theorem dX8_shareOf_22 : decode cX8_shareOf 22 = .ok (.aload 6, 2) := by decide +kernel
theorem dX8_shareOf_24 : decode cX8_shareOf 24 = .ok (.aload_n 0, 1) := by decide +kernel
theorem dX8_shareOf_25 : decode cX8_shareOf 25 = .ok (.getfield 12, 3) := by decide +kernel
theorem dX8_shareOf_28 : decode cX8_shareOf 28 = .ok (.invokevirtual 40, 3) := by decide +kernel
theorem dX8_shareOf_31 : decode cX8_shareOf 31 = .ok (.invokevirtual 117, 3) := by decide +kernel
theorem dX8_shareOf_34 : decode cX8_shareOf 34 = .ok (.ifCond .eq 13, 3) := by decide +kernel
theorem dX8_shareOf_37 : decode cX8_shareOf 37 = .ok (.iload 4, 2) := by decide +kernel
theorem dX8_shareOf_39 : decode cX8_shareOf 39 = .ok (.aload 6, 2) := by decide +kernel
theorem dX8_shareOf_41 : decode cX8_shareOf 41 = .ok (.getfield 100, 3) := by decide +kernel
theorem dX8_shareOf_44 : decode cX8_shareOf 44 = .ok (.iadd, 1) := by decide +kernel
theorem dX8_shareOf_45 : decode cX8_shareOf 45 = .ok (.istore 4, 2) := by decide +kernel
theorem dX8_shareOf_47 : decode cX8_shareOf 47 = .ok (.iinc 5 1, 3) := by decide +kernel
theorem dX8_shareOf_50 : decode cX8_shareOf 50 = .ok (.goto (-44), 3) := by decide +kernel
theorem dX8_shareOf_53 : decode cX8_shareOf 53 = .ok (.iload 4, 2) := by decide +kernel
theorem dX8_shareOf_55 : decode cX8_shareOf 55 = .ok (.ifCond .le 12, 3) := by decide +kernel
theorem dX8_shareOf_58 : decode cX8_shareOf 58 = .ok (.iload_n 1, 1) := by decide +kernel
theorem dX8_shareOf_59 : decode cX8_shareOf 59 = .ok (.iload_n 3, 1) := by decide +kernel
theorem dX8_shareOf_60 : decode cX8_shareOf 60 = .ok (.imul, 1) := by decide +kernel
theorem dX8_shareOf_61 : decode cX8_shareOf 61 = .ok (.iload 4, 2) := by decide +kernel
theorem dX8_shareOf_63 : decode cX8_shareOf 63 = .ok (.idiv, 1) := by decide +kernel
theorem dX8_shareOf_64 : decode cX8_shareOf 64 = .ok (.goto 4, 3) := by decide +kernel
theorem dX8_shareOf_67 : decode cX8_shareOf 67 = .ok (.iconst 0, 1) := by decide +kernel
theorem dX8_shareOf_68 : decode cX8_shareOf 68 = .ok (.ireturn, 1) := by decide +kernel
set_option maxRecDepth 20000 in
theorem ggX8_hearReturn_X1_bringBack : GoodIn wsX8_hearReturn wsX1_bringBack := goodIn_r _ [12, 13, 14, 15, 16, 17, 18, 19, 20, 21, 22, 23, 24, 25, 26, 27, 28, 29, 30, 31, 32, 33, 34, 35, 36, 37, 38, 39, 40, 41, 42, 11, 43, 44, 45, 46, 47, 48, 49, 50, 51, 52, 53, 54, 55, 56, 57, 58, 59, 60, 61, 62, 63, 64, 65, 66, 67, 68, 69, 70, 71, 72, 87, 88, 89, 90, 91, 92, 93, 94, 95, 96, 97, 98] (by decide +kernel) (by decide +kernel)
set_option maxRecDepth 20000 in
theorem gX8_hearReturn_X1_bringBack : GoodIn wsX8_hearReturn (wsV RX8 124 RX1 yX1_bringBack wsX1_bringBack) := goodIn_app (goodIn_of _ (by decide +kernel)) ggX8_hearReturn_X1_bringBack
theorem dX8_hearReturn_0 : decode cX8_hearReturn 0 = .ok (.aload_n 1, 1) := by decide +kernel
theorem dX8_hearReturn_1 : decode cX8_hearReturn 1 = .ok (.getfield 52, 3) := by decide +kernel
theorem dX8_hearReturn_4 : decode cX8_hearReturn 4 = .ok (.aload_n 0, 1) := by decide +kernel
theorem dX8_hearReturn_5 : decode cX8_hearReturn 5 = .ok (.getfield 30, 3) := by decide +kernel
theorem dX8_hearReturn_8 : decode cX8_hearReturn 8 = .ok (.aload_n 1, 1) := by decide +kernel
theorem dX8_hearReturn_9 : decode cX8_hearReturn 9 = .ok (.getfield 57, 3) := by decide +kernel
theorem dX8_hearReturn_12 : decode cX8_hearReturn 12 = .ok (.iaload, 1) := by decide +kernel
theorem dX8_hearReturn_13 : decode cX8_hearReturn 13 = .ok (.if_icmp .lt 30, 3) := by decide +kernel
theorem dX8_hearReturn_16 : decode cX8_hearReturn 16 = .ok (.aload_n 0, 1) := by decide +kernel
theorem dX8_hearReturn_17 : decode cX8_hearReturn 17 = .ok (.getfield 20, 3) := by decide +kernel
theorem dX8_hearReturn_20 : decode cX8_hearReturn 20 = .ok (.aload_n 1, 1) := by decide +kernel
theorem dX8_hearReturn_21 : decode cX8_hearReturn 21 = .ok (.getfield 63, 3) := by decide +kernel
theorem dX8_hearReturn_24 : decode cX8_hearReturn 24 = .ok (.aaload, 1) := by decide +kernel
theorem dX8_hearReturn_25 : decode cX8_hearReturn 25 = .ok (.aload_n 1, 1) := by decide +kernel
theorem dX8_hearReturn_26 : decode cX8_hearReturn 26 = .ok (.getfield 121, 3) := by decide +kernel
theorem dX8_hearReturn_29 : decode cX8_hearReturn 29 = .ok (.aload_n 1, 1) := by decide +kernel
theorem dX8_hearReturn_30 : decode cX8_hearReturn 30 = .ok (.getfield 97, 3) := by decide +kernel
theorem dX8_hearReturn_33 : decode cX8_hearReturn 33 = .ok (.invokevirtual 124, 3) := by decide +kernel
theorem dX8_hearReturn_36 : decode cX8_hearReturn 36 = .ok (.ifCond .eq 7, 3) := by decide +kernel
theorem dX8_hearReturn_39 : decode cX8_hearReturn 39 = .ok (.iconst 1, 1) := by decide +kernel
theorem dX8_hearReturn_40 : decode cX8_hearReturn 40 = .ok (.goto 4, 3) := by decide +kernel
theorem dX8_hearReturn_43 : decode cX8_hearReturn 43 = .ok (.iconst 0, 1) := by decide +kernel
theorem dX8_hearReturn_44 : decode cX8_hearReturn 44 = .ok (.ireturn, 1) := by decide +kernel
theorem dX9_init_0 : decode cX9_init 0 = .ok (.aload_n 0, 1) := by decide +kernel
theorem dX9_init_1 : decode cX9_init 1 = .ok (.invokespecial 1, 3) := by decide +kernel
theorem dX9_init_4 : decode cX9_init 4 = .ok (.aload_n 0, 1) := by decide +kernel
theorem dX9_init_5 : decode cX9_init 5 = .ok (.sipush 1000, 3) := by decide +kernel
theorem dX9_init_8 : decode cX9_init 8 = .ok (.putfield 7, 3) := by decide +kernel
theorem dX9_init_11 : decode cX9_init 11 = .ok (.return_, 1) := by decide +kernel
theorem dX9_advance_0 : decode cX9_advance 0 = .ok (.aload_n 0, 1) := by decide +kernel
theorem dX9_advance_1 : decode cX9_advance 1 = .ok (.dup, 1) := by decide +kernel
theorem dX9_advance_2 : decode cX9_advance 2 = .ok (.getfield 13, 3) := by decide +kernel
theorem dX9_advance_5 : decode cX9_advance 5 = .ok (.iload_n 1, 1) := by decide +kernel
theorem dX9_advance_6 : decode cX9_advance 6 = .ok (.i2l, 1) := by decide +kernel
theorem dX9_advance_7 : decode cX9_advance 7 = .ok (.aload_n 0, 1) := by decide +kernel
theorem dX9_advance_8 : decode cX9_advance 8 = .ok (.getfield 7, 3) := by decide +kernel
theorem dX9_advance_11 : decode cX9_advance 11 = .ok (.i2l, 1) := by decide +kernel
theorem dX9_advance_12 : decode cX9_advance 12 = .ok (.lmul, 1) := by decide +kernel
theorem dX9_advance_13 : decode cX9_advance 13 = .ok (.ladd, 1) := by decide +kernel
theorem dX9_advance_14 : decode cX9_advance 14 = .ok (.putfield 13, 3) := by decide +kernel
theorem dX9_advance_17 : decode cX9_advance 17 = .ok (.return_, 1) := by decide +kernel
theorem dX9_now_0 : decode cX9_now 0 = .ok (.aload_n 0, 1) := by decide +kernel
theorem dX9_now_1 : decode cX9_now 1 = .ok (.getfield 13, 3) := by decide +kernel
theorem dX9_now_4 : decode cX9_now 4 = .ok (.ldc2_w 17, 3) := by decide +kernel
theorem dX9_now_7 : decode cX9_now 7 = .ok (.ldiv, 1) := by decide +kernel
theorem dX9_now_8 : decode cX9_now 8 = .ok (.l2i, 1) := by decide +kernel
theorem dX9_now_9 : decode cX9_now 9 = .ok (.ireturn, 1) := by decide +kernel
set_option maxRecDepth 20000 in
theorem ggX10_init_X8_init : GoodIn wsX10_init wsX8_init := goodIn_r _ [18, 19, 2, 3, 20, 21, 22, 23, 24, 25, 26, 27, 28, 29, 30, 31, 32, 33, 34, 35, 36, 37, 38, 39, 40, 41, 42, 43, 44, 45, 46, 47, 48, 49, 50, 51, 52, 53, 54, 55, 56, 57, 58, 59, 60, 61, 62, 63, 64, 103, 104, 89, 90, 91, 92, 93, 94, 105, 106, 107, 108, 109, 110, 111, 112, 113, 114, 115, 116, 117] (by decide +kernel) (by decide +kernel)
set_option maxRecDepth 20000 in
theorem gX10_init_X8_init : GoodIn wsX10_init (wsX8_init) := ggX10_init_X8_init
set_option maxRecDepth 20000 in
theorem ggX10_init_X7_init : GoodIn wsX10_init wsX7_init := goodIn_r _ [66, 67, 2, 3, 68, 69, 98, 99] (by decide +kernel) (by decide +kernel)
set_option maxRecDepth 20000 in
theorem gX10_init_X7_init_n18 : GoodIn wsX10_init (wsX7_init) := ggX10_init_X7_init
set_option maxRecDepth 20000 in
theorem ggX10_init_X3_init : GoodIn wsX10_init wsX3_init := goodIn_r _ [72, 73, 2, 3, 74, 21, 22, 75, 76, 77, 78, 79, 35, 36, 37, 38, 80, 81, 82, 83, 84, 43, 44, 85, 86, 87, 88, 47, 48, 49, 50, 51, 52, 53, 54, 55, 56, 57, 58, 59, 60, 103, 104, 100, 101, 102, 118, 119, 120, 121, 122, 123, 124, 125, 126, 115, 116, 117] (by decide +kernel) (by decide +kernel)
set_option maxRecDepth 20000 in
theorem gX10_init_X3_init : GoodIn wsX10_init (wsX3_init) := ggX10_init_X3_init
theorem dX10_init_0 : decode cX10_init 0 = .ok (.aload_n 0, 1) := by decide +kernel
theorem dX10_init_1 : decode cX10_init 1 = .ok (.invokespecial 1, 3) := by decide +kernel
theorem dX10_init_4 : decode cX10_init 4 = .ok (.aload_n 0, 1) := by decide +kernel
theorem dX10_init_5 : decode cX10_init 5 = .ok (.new 7, 3) := by decide +kernel
theorem dX10_init_8 : decode cX10_init 8 = .ok (.dup, 1) := by decide +kernel
theorem dX10_init_9 : decode cX10_init 9 = .ok (.invokespecial 9, 3) := by decide +kernel
theorem dX10_init_12 : decode cX10_init 12 = .ok (.putfield 10, 3) := by decide +kernel
theorem dX10_init_15 : decode cX10_init 15 = .ok (.aload_n 0, 1) := by decide +kernel
theorem dX10_init_16 : decode cX10_init 16 = .ok (.new 16, 3) := by decide +kernel
theorem dX10_init_19 : decode cX10_init 19 = .ok (.dup, 1) := by decide +kernel
theorem dX10_init_20 : decode cX10_init 20 = .ok (.invokespecial 18, 3) := by decide +kernel
theorem dX10_init_23 : decode cX10_init 23 = .ok (.putfield 19, 3) := by decide +kernel
theorem dX10_init_26 : decode cX10_init 26 = .ok (.aload_n 0, 1) := by decide +kernel
theorem dX10_init_27 : decode cX10_init 27 = .ok (.bipush 6, 2) := by decide +kernel
theorem dX10_init_29 : decode cX10_init 29 = .ok (.anewarray 23, 3) := by decide +kernel
theorem dX10_init_32 : decode cX10_init 32 = .ok (.putfield 25, 3) := by decide +kernel
theorem dX10_init_35 : decode cX10_init 35 = .ok (.iconst 0, 1) := by decide +kernel
theorem dX10_init_36 : decode cX10_init 36 = .ok (.istore_n 1, 1) := by decide +kernel
theorem dX10_init_37 : decode cX10_init 37 = .ok (.iload_n 1, 1) := by decide +kernel
theorem dX10_init_38 : decode cX10_init 38 = .ok (.bipush 6, 2) := by decide +kernel
theorem dX10_init_40 : decode cX10_init 40 = .ok (.if_icmp .ge 23, 3) := by decide +kernel
theorem dX10_init_43 : decode cX10_init 43 = .ok (.aload_n 0, 1) := by decide +kernel
theorem dX10_init_44 : decode cX10_init 44 = .ok (.getfield 25, 3) := by decide +kernel
theorem dX10_init_47 : decode cX10_init 47 = .ok (.iload_n 1, 1) := by decide +kernel
theorem dX10_init_48 : decode cX10_init 48 = .ok (.new 23, 3) := by decide +kernel
theorem dX10_init_51 : decode cX10_init 51 = .ok (.dup, 1) := by decide +kernel
theorem dX10_init_52 : decode cX10_init 52 = .ok (.iload_n 1, 1) := by decide +kernel
theorem dX10_init_53 : decode cX10_init 53 = .ok (.invokespecial 29, 3) := by decide +kernel
theorem dX10_init_56 : decode cX10_init 56 = .ok (.aastore, 1) := by decide +kernel
theorem dX10_init_57 : decode cX10_init 57 = .ok (.iinc 1 1, 3) := by decide +kernel
theorem dX10_init_60 : decode cX10_init 60 = .ok (.goto (-23), 3) := by decide +kernel
theorem dX10_init_63 : decode cX10_init 63 = .ok (.return_, 1) := by decide +kernel
set_option maxRecDepth 20000 in
theorem ggX10_key_X10_requireKey : GoodIn wsX10_key wsX10_requireKey := goodIn_ca (goodIn_r _ [8, 9, 10, 7, 11, 12, 13] (by decide +kernel) (by decide +kernel)) (goodIn_sub (fun _ h => List.mem_cons_of_mem _ (List.mem_append_right _ h)) (by decide +kernel))
set_option maxRecDepth 20000 in
theorem gX10_key_X10_requireKey : GoodIn wsX10_key (va_wsS RX10 32 yX10_requireKey wsX10_requireKey) := goodIn_app (goodIn_of _ (by decide +kernel)) ggX10_key_X10_requireKey
set_option maxRecDepth 20000 in
theorem ggX10_key_X10_requireWithin : GoodIn wsX10_key wsX10_requireWithin := goodIn_ca (goodIn_r _ [11, 12, 13] (by decide +kernel) (by decide +kernel)) (goodIn_sub (fun _ h => List.mem_cons_of_mem _ (List.mem_append_right _ h)) (by decide +kernel))
set_option maxRecDepth 20000 in
theorem gX10_key_X10_requireWithin : GoodIn wsX10_key (va_wsS RX10 36 yX10_requireWithin wsX10_requireWithin) := goodIn_app (goodIn_of _ (by decide +kernel)) ggX10_key_X10_requireWithin
set_option maxRecDepth 20000 in
theorem ggX10_key_X1_reshape : GoodIn wsX10_key wsX1_reshape := goodIn_r _ [18, 19, 20, 21, 22, 23, 17, 24, 25, 26, 27, 28, 29, 30, 31, 32, 33, 34, 44, 45, 46, 47, 48, 49] (by decide +kernel) (by decide +kernel)
set_option maxRecDepth 20000 in
theorem gX10_key_X1_reshape : GoodIn wsX10_key (wsV RX10 45 RX1 yX1_reshape wsX1_reshape) := goodIn_app (goodIn_of _ (by decide +kernel)) ggX10_key_X1_reshape
theorem dX10_key_0 : decode cX10_key 0 = .ok (.iload_n 1, 1) := by decide +kernel
theorem dX10_key_1 : decode cX10_key 1 = .ok (.invokestatic 32, 3) := by decide +kernel
theorem dX10_key_4 : decode cX10_key 4 = .ok (.iload_n 2, 1) := by decide +kernel
theorem dX10_key_5 : decode cX10_key 5 = .ok (.iconst 0, 1) := by decide +kernel
theorem dX10_key_6 : decode cX10_key 6 = .ok (.ldc 35, 2) := by decide +kernel
theorem dX10_key_8 : decode cX10_key 8 = .ok (.invokestatic 36, 3) := by decide +kernel
theorem dX10_key_11 : decode cX10_key 11 = .ok (.iload_n 3, 1) := by decide +kernel
theorem dX10_key_12 : decode cX10_key 12 = .ok (.iconst 0, 1) := by decide +kernel
theorem dX10_key_13 : decode cX10_key 13 = .ok (.ldc 40, 2) := by decide +kernel
theorem dX10_key_15 : decode cX10_key 15 = .ok (.invokestatic 36, 3) := by decide +kernel
theorem dX10_key_18 : decode cX10_key 18 = .ok (.aload_n 0, 1) := by decide +kernel
theorem dX10_key_19 : decode cX10_key 19 = .ok (.getfield 10, 3) := by decide +kernel
theorem dX10_key_22 : decode cX10_key 22 = .ok (.getfield 41, 3) := by decide +kernel
theorem dX10_key_25 : decode cX10_key 25 = .ok (.iload_n 1, 1) := by decide +kernel
theorem dX10_key_26 : decode cX10_key 26 = .ok (.aaload, 1) := by decide +kernel
theorem dX10_key_27 : decode cX10_key 27 = .ok (.iload_n 2, 1) := by decide +kernel
theorem dX10_key_28 : decode cX10_key 28 = .ok (.iload_n 3, 1) := by decide +kernel
theorem dX10_key_29 : decode cX10_key 29 = .ok (.invokevirtual 45, 3) := by decide +kernel
theorem dX10_key_32 : decode cX10_key 32 = .ok (.return_, 1) := by decide +kernel
set_option maxRecDepth 20000 in
theorem ggX10_length_X10_requireWithin : GoodIn wsX10_length wsX10_requireWithin := goodIn_ca (goodIn_r _ [6, 7, 8] (by decide +kernel) (by decide +kernel)) (goodIn_sub (fun _ h => List.mem_cons_of_mem _ (List.mem_append_right _ h)) (by decide +kernel))
set_option maxRecDepth 20000 in
theorem gX10_length_X10_requireWithin : GoodIn wsX10_length (va_wsS RX10 36 yX10_requireWithin wsX10_requireWithin) := goodIn_app (goodIn_of _ (by decide +kernel)) ggX10_length_X10_requireWithin
theorem dX10_length_0 : decode cX10_length 0 = .ok (.iload_n 1, 1) := by decide +kernel
theorem dX10_length_1 : decode cX10_length 1 = .ok (.bipush 10, 2) := by decide +kernel
theorem dX10_length_3 : decode cX10_length 3 = .ok (.sipush 9000, 3) := by decide +kernel
theorem dX10_length_6 : decode cX10_length 6 = .ok (.invokestatic 36, 3) := by decide +kernel
theorem dX10_length_9 : decode cX10_length 9 = .ok (.aload_n 0, 1) := by decide +kernel
theorem dX10_length_10 : decode cX10_length 10 = .ok (.getfield 10, 3) := by decide +kernel
theorem dX10_length_13 : decode cX10_length 13 = .ok (.iload_n 1, 1) := by decide +kernel
theorem dX10_length_14 : decode cX10_length 14 = .ok (.putfield 51, 3) := by decide +kernel
theorem dX10_length_17 : decode cX10_length 17 = .ok (.return_, 1) := by decide +kernel
set_option maxRecDepth 20000 in
theorem ggX10_weight_X10_requireGate : GoodIn wsX10_weight wsX10_requireGate := goodIn_ca (goodIn_r _ [6, 7, 8, 5, 9, 10, 11] (by decide +kernel) (by decide +kernel)) (goodIn_sub (fun _ h => List.mem_cons_of_mem _ (List.mem_append_right _ h)) (by decide +kernel))
set_option maxRecDepth 20000 in
theorem gX10_weight_X10_requireGate : GoodIn wsX10_weight (va_wsS RX10 55 yX10_requireGate wsX10_requireGate) := goodIn_app (goodIn_of _ (by decide +kernel)) ggX10_weight_X10_requireGate
set_option maxRecDepth 20000 in
theorem ggX10_weight_X10_requireKey : GoodIn wsX10_weight wsX10_requireKey := goodIn_ca (goodIn_r _ [14, 7, 8, 5, 9, 10, 11] (by decide +kernel) (by decide +kernel)) (goodIn_sub (fun _ h => List.mem_cons_of_mem _ (List.mem_append_right _ h)) (by decide +kernel))
set_option maxRecDepth 20000 in
theorem gX10_weight_X10_requireKey : GoodIn wsX10_weight (va_wsS RX10 32 yX10_requireKey wsX10_requireKey) := goodIn_app (goodIn_of _ (by decide +kernel)) ggX10_weight_X10_requireKey
set_option maxRecDepth 20000 in
theorem ggX10_weight_X10_requireWithin : GoodIn wsX10_weight wsX10_requireWithin := goodIn_ca (goodIn_r _ [9, 10, 11] (by decide +kernel) (by decide +kernel)) (goodIn_sub (fun _ h => List.mem_cons_of_mem _ (List.mem_append_right _ h)) (by decide +kernel))
set_option maxRecDepth 20000 in
theorem gX10_weight_X10_requireWithin : GoodIn wsX10_weight (va_wsS RX10 36 yX10_requireWithin wsX10_requireWithin) := goodIn_app (goodIn_of _ (by decide +kernel)) ggX10_weight_X10_requireWithin
set_option maxRecDepth 20000 in
theorem ggX10_weight_X8_accountOf : GoodIn wsX10_weight wsX8_accountOf := goodIn_r _ [19, 20, 28, 29, 30, 31, 32, 33] (by decide +kernel) (by decide +kernel)
set_option maxRecDepth 20000 in
theorem gX10_weight_X8_accountOf : GoodIn wsX10_weight (wsV RX10 58 RX8 yX8_accountOf wsX8_accountOf) := goodIn_app (goodIn_of _ (by decide +kernel)) ggX10_weight_X8_accountOf
theorem dX10_weight_0 : decode cX10_weight 0 = .ok (.iload_n 1, 1) := by decide +kernel
theorem dX10_weight_1 : decode cX10_weight 1 = .ok (.invokestatic 55, 3) := by decide +kernel
theorem dX10_weight_4 : decode cX10_weight 4 = .ok (.iload_n 2, 1) := by decide +kernel
theorem dX10_weight_5 : decode cX10_weight 5 = .ok (.invokestatic 32, 3) := by decide +kernel
theorem dX10_weight_8 : decode cX10_weight 8 = .ok (.iload_n 3, 1) := by decide +kernel
theorem dX10_weight_9 : decode cX10_weight 9 = .ok (.iconst 1, 1) := by decide +kernel
theorem dX10_weight_10 : decode cX10_weight 10 = .ok (.bipush 100, 2) := by decide +kernel
theorem dX10_weight_12 : decode cX10_weight 12 = .ok (.invokestatic 36, 3) := by decide +kernel
theorem dX10_weight_15 : decode cX10_weight 15 = .ok (.aload_n 0, 1) := by decide +kernel
theorem dX10_weight_16 : decode cX10_weight 16 = .ok (.getfield 10, 3) := by decide +kernel
theorem dX10_weight_19 : decode cX10_weight 19 = .ok (.iload_n 1, 1) := by decide +kernel
theorem dX10_weight_20 : decode cX10_weight 20 = .ok (.iload_n 2, 1) := by decide +kernel
theorem dX10_weight_21 : decode cX10_weight 21 = .ok (.invokevirtual 58, 3) := by decide +kernel
theorem dX10_weight_24 : decode cX10_weight 24 = .ok (.iload_n 3, 1) := by decide +kernel
theorem dX10_weight_25 : decode cX10_weight 25 = .ok (.putfield 62, 3) := by decide +kernel
theorem dX10_weight_28 : decode cX10_weight 28 = .ok (.return_, 1) := by decide +kernel
set_option maxRecDepth 20000 in
theorem ggX10_speed_X10_requireWithin : GoodIn wsX10_speed wsX10_requireWithin := goodIn_ca (goodIn_r _ [5, 6, 7] (by decide +kernel) (by decide +kernel)) (goodIn_sub (fun _ h => List.mem_cons_of_mem _ (List.mem_append_right _ h)) (by decide +kernel))
set_option maxRecDepth 20000 in
theorem gX10_speed_X10_requireWithin : GoodIn wsX10_speed (va_wsS RX10 36 yX10_requireWithin wsX10_requireWithin) := goodIn_app (goodIn_of _ (by decide +kernel)) ggX10_speed_X10_requireWithin
set_option maxRecDepth 20000 in
theorem ggX10_speed_X10_tickerOf : GoodIn wsX10_speed wsX10_tickerOf := goodIn_r _ [11, 12, 13, 14, 15, 18, 19, 20, 21, 22, 23, 24, 25, 26, 27, 28, 29] (by decide +kernel) (by decide +kernel)
set_option maxRecDepth 20000 in
theorem gX10_speed_X10_tickerOf : GoodIn wsX10_speed (wsV RX10 67 RX10 yX10_tickerOf wsX10_tickerOf) := goodIn_app (goodIn_of _ (by decide +kernel)) ggX10_speed_X10_tickerOf
theorem dX10_speed_0 : decode cX10_speed 0 = .ok (.iload_n 1, 1) := by decide +kernel
theorem dX10_speed_1 : decode cX10_speed 1 = .ok (.iconst (-1), 1) := by decide +kernel
theorem dX10_speed_2 : decode cX10_speed 2 = .ok (.iconst 5, 1) := by decide +kernel
theorem dX10_speed_3 : decode cX10_speed 3 = .ok (.invokestatic 36, 3) := by decide +kernel
theorem dX10_speed_6 : decode cX10_speed 6 = .ok (.iload_n 2, 1) := by decide +kernel
theorem dX10_speed_7 : decode cX10_speed 7 = .ok (.sipush 999, 3) := by decide +kernel
theorem dX10_speed_10 : decode cX10_speed 10 = .ok (.sipush 1001, 3) := by decide +kernel
theorem dX10_speed_13 : decode cX10_speed 13 = .ok (.invokestatic 36, 3) := by decide +kernel
theorem dX10_speed_16 : decode cX10_speed 16 = .ok (.aload_n 0, 1) := by decide +kernel
theorem dX10_speed_17 : decode cX10_speed 17 = .ok (.iload_n 1, 1) := by decide +kernel
theorem dX10_speed_18 : decode cX10_speed 18 = .ok (.invokevirtual 67, 3) := by decide +kernel
theorem dX10_speed_21 : decode cX10_speed 21 = .ok (.iload_n 2, 1) := by decide +kernel
theorem dX10_speed_22 : decode cX10_speed 22 = .ok (.putfield 71, 3) := by decide +kernel
theorem dX10_speed_25 : decode cX10_speed 25 = .ok (.return_, 1) := by decide +kernel
set_option maxRecDepth 20000 in
theorem ggX10_take_X10_requireGate : GoodIn wsX10_take wsX10_requireGate := goodIn_ca (goodIn_r _ [8, 9, 10, 7, 11, 12, 13] (by decide +kernel) (by decide +kernel)) (goodIn_sub (fun _ h => List.mem_cons_of_mem _ (List.mem_append_right _ h)) (by decide +kernel))
set_option maxRecDepth 20000 in
theorem gX10_take_X10_requireGate : GoodIn wsX10_take (va_wsS RX10 55 yX10_requireGate wsX10_requireGate) := goodIn_app (goodIn_of _ (by decide +kernel)) ggX10_take_X10_requireGate
set_option maxRecDepth 20000 in
theorem ggX10_take_X10_requireKey : GoodIn wsX10_take wsX10_requireKey := goodIn_ca (goodIn_r _ [16, 9, 10, 7, 11, 12, 13] (by decide +kernel) (by decide +kernel)) (goodIn_sub (fun _ h => List.mem_cons_of_mem _ (List.mem_append_right _ h)) (by decide +kernel))
set_option maxRecDepth 20000 in
theorem gX10_take_X10_requireKey : GoodIn wsX10_take (va_wsS RX10 32 yX10_requireKey wsX10_requireKey) := goodIn_app (goodIn_of _ (by decide +kernel)) ggX10_take_X10_requireKey
set_option maxRecDepth 20000 in
theorem ggX10_take_X10_requireWithin : GoodIn wsX10_take wsX10_requireWithin := goodIn_ca (goodIn_r _ [11, 12, 13] (by decide +kernel) (by decide +kernel)) (goodIn_sub (fun _ h => List.mem_cons_of_mem _ (List.mem_append_right _ h)) (by decide +kernel))
set_option maxRecDepth 20000 in
theorem gX10_take_X10_requireWithin : GoodIn wsX10_take (va_wsS RX10 36 yX10_requireWithin wsX10_requireWithin) := goodIn_app (goodIn_of _ (by decide +kernel)) ggX10_take_X10_requireWithin
set_option maxRecDepth 20000 in
theorem ggX10_take_X3_spend : GoodIn wsX10_take wsX3_spend := goodIn_r _ [21, 22, 23, 24, 25, 26, 27, 28, 29, 30, 31, 32, 33, 34, 35, 36, 37, 38, 39, 40, 41, 42, 43, 44, 45, 46, 47, 48, 49, 50, 51, 52, 53, 54, 55, 56, 57, 58, 59, 60, 61, 62, 63, 64, 65, 66, 67, 68, 69, 70, 71, 72, 73, 74, 75, 76, 77, 78, 79, 80, 81, 82, 83, 84, 85, 86, 87, 88, 89, 90, 91, 92, 93, 94, 95, 96, 97, 98, 99, 100, 101, 102, 103, 104, 120, 121, 122, 123, 124, 125, 126, 127, 128, 129, 130, 131, 132, 133, 134, 135, 136, 137, 138, 139, 140] (by decide +kernel) (by decide +kernel)
set_option maxRecDepth 20000 in
theorem gX10_take_X3_spend : GoodIn wsX10_take (wsV RX10 76 RX3 yX3_spend wsX3_spend) := goodIn_app (goodIn_of _ (by decide +kernel)) ggX10_take_X3_spend
theorem dX10_take_0 : decode cX10_take 0 = .ok (.iload_n 1, 1) := by decide +kernel
theorem dX10_take_1 : decode cX10_take 1 = .ok (.invokestatic 55, 3) := by decide +kernel
theorem dX10_take_4 : decode cX10_take 4 = .ok (.iload_n 2, 1) := by decide +kernel
theorem dX10_take_5 : decode cX10_take 5 = .ok (.invokestatic 32, 3) := by decide +kernel
theorem dX10_take_8 : decode cX10_take 8 = .ok (.iload_n 3, 1) := by decide +kernel
theorem dX10_take_9 : decode cX10_take 9 = .ok (.iconst 1, 1) := by decide +kernel
theorem dX10_take_10 : decode cX10_take 10 = .ok (.sipush 10000, 3) := by decide +kernel
theorem dX10_take_13 : decode cX10_take 13 = .ok (.invokestatic 36, 3) := by decide +kernel
theorem dX10_take_16 : decode cX10_take 16 = .ok (.aload_n 0, 1) := by decide +kernel
theorem dX10_take_17 : decode cX10_take 17 = .ok (.getfield 25, 3) := by decide +kernel
theorem dX10_take_20 : decode cX10_take 20 = .ok (.iload_n 1, 1) := by decide +kernel
theorem dX10_take_21 : decode cX10_take 21 = .ok (.aaload, 1) := by decide +kernel
theorem dX10_take_22 : decode cX10_take 22 = .ok (.iload_n 2, 1) := by decide +kernel
theorem dX10_take_23 : decode cX10_take 23 = .ok (.iload_n 3, 1) := by decide +kernel
theorem dX10_take_24 : decode cX10_take 24 = .ok (.invokevirtual 76, 3) := by decide +kernel
theorem dX10_take_27 : decode cX10_take 27 = .ok (.istore 4, 2) := by decide +kernel
theorem dX10_take_29 : decode cX10_take 29 = .ok (.iload 4, 2) := by decide +kernel
theorem dX10_take_31 : decode cX10_take 31 = .ok (.ifCond .eq 21, 3) := by decide +kernel
theorem dX10_take_34 : decode cX10_take 34 = .ok (.aload_n 0, 1) := by decide +kernel
theorem dX10_take_35 : decode cX10_take 35 = .ok (.getfield 10, 3) := by decide +kernel
theorem dX10_take_38 : decode cX10_take 38 = .ok (.getfield 41, 3) := by decide +kernel
theorem dX10_take_41 : decode cX10_take 41 = .ok (.iload_n 2, 1) := by decide +kernel
theorem dX10_take_42 : decode cX10_take 42 = .ok (.aaload, 1) := by decide +kernel
theorem dX10_take_43 : decode cX10_take 43 = .ok (.dup, 1) := by decide +kernel
theorem dX10_take_44 : decode cX10_take 44 = .ok (.getfield 80, 3) := by decide +kernel
theorem dX10_take_47 : decode cX10_take 47 = .ok (.iload_n 3, 1) := by decide +kernel
theorem dX10_take_48 : decode cX10_take 48 = .ok (.iadd, 1) := by decide +kernel
theorem dX10_take_49 : decode cX10_take 49 = .ok (.putfield 80, 3) := by decide +kernel
theorem dX10_take_52 : decode cX10_take 52 = .ok (.iload 4, 2) := by decide +kernel
theorem dX10_take_54 : decode cX10_take 54 = .ok (.ireturn, 1) := by decide +kernel
set_option maxRecDepth 20000 in
theorem ggX10_work_X10_requireGate : GoodIn wsX10_work wsX10_requireGate := goodIn_ca (goodIn_r _ [7, 8, 9, 6, 10, 11, 12] (by decide +kernel) (by decide +kernel)) (goodIn_sub (fun _ h => List.mem_cons_of_mem _ (List.mem_append_right _ h)) (by decide +kernel))
set_option maxRecDepth 20000 in
theorem gX10_work_X10_requireGate : GoodIn wsX10_work (va_wsS RX10 55 yX10_requireGate wsX10_requireGate) := goodIn_app (goodIn_of _ (by decide +kernel)) ggX10_work_X10_requireGate
set_option maxRecDepth 20000 in
theorem ggX10_work_X3_settle : GoodIn wsX10_work wsX3_settle := goodIn_r _ [17, 18, 19, 20, 21, 22, 23, 24, 25, 26, 27, 28, 29, 30, 31, 32, 33, 34, 35, 36, 37, 38, 39, 40, 41, 42, 43, 44, 45, 46, 47, 48, 49, 50, 51, 52, 53, 54, 55, 56, 57, 58, 59, 60, 61, 62, 63, 64, 65, 66, 67, 68, 69, 70, 71, 72, 73, 74, 75, 76, 77, 78, 79, 80, 81, 82, 83, 84, 85, 86, 87, 88, 89, 90, 91, 92, 93, 94, 95, 96, 97, 98, 99, 100, 101, 102, 103, 104, 105, 106, 107, 108, 109, 110, 111, 112, 113, 114, 115, 116, 117, 118, 119, 120, 121, 122, 123, 124, 125, 126, 127, 128, 129, 130, 131, 132, 133, 134, 135, 141, 142, 143, 144, 145, 146, 147, 148, 149, 150, 151, 152, 153, 154, 155, 156, 157, 158, 159, 160, 161, 162, 163, 164, 165, 166, 167, 168, 169, 139, 140] (by decide +kernel) (by decide +kernel)
set_option maxRecDepth 20000 in
theorem gX10_work_X3_settle : GoodIn wsX10_work (wsV RX10 86 RX3 yX3_settle wsX3_settle) := goodIn_app (goodIn_of _ (by decide +kernel)) ggX10_work_X3_settle
theorem dX10_work_0 : decode cX10_work 0 = .ok (.iload_n 1, 1) := by decide +kernel
theorem dX10_work_1 : decode cX10_work 1 = .ok (.invokestatic 55, 3) := by decide +kernel
theorem dX10_work_4 : decode cX10_work 4 = .ok (.aload_n 0, 1) := by decide +kernel
theorem dX10_work_5 : decode cX10_work 5 = .ok (.getfield 19, 3) := by decide +kernel
theorem dX10_work_8 : decode cX10_work 8 = .ok (.getfield 83, 3) := by decide +kernel
theorem dX10_work_11 : decode cX10_work 11 = .ok (.istore_n 2, 1) := by decide +kernel
theorem dX10_work_12 : decode cX10_work 12 = .ok (.aload_n 0, 1) := by decide +kernel
theorem dX10_work_13 : decode cX10_work 13 = .ok (.getfield 25, 3) := by decide +kernel
theorem dX10_work_16 : decode cX10_work 16 = .ok (.iload_n 1, 1) := by decide +kernel
theorem dX10_work_17 : decode cX10_work 17 = .ok (.aaload, 1) := by decide +kernel
theorem dX10_work_18 : decode cX10_work 18 = .ok (.aload_n 0, 1) := by decide +kernel
theorem dX10_work_19 : decode cX10_work 19 = .ok (.getfield 19, 3) := by decide +kernel
theorem dX10_work_22 : decode cX10_work 22 = .ok (.invokevirtual 86, 3) := by decide +kernel
theorem dX10_work_25 : decode cX10_work 25 = .ok (.aload_n 0, 1) := by decide +kernel
theorem dX10_work_26 : decode cX10_work 26 = .ok (.getfield 19, 3) := by decide +kernel
theorem dX10_work_29 : decode cX10_work 29 = .ok (.getfield 83, 3) := by decide +kernel
theorem dX10_work_32 : decode cX10_work 32 = .ok (.iload_n 2, 1) := by decide +kernel
theorem dX10_work_33 : decode cX10_work 33 = .ok (.isub, 1) := by decide +kernel
theorem dX10_work_34 : decode cX10_work 34 = .ok (.ireturn, 1) := by decide +kernel
set_option maxRecDepth 20000 in
theorem ggX10_carry_X10_requireMessage : GoodIn wsX10_carry wsX10_requireMessage := goodIn_ca (goodIn_r _ [10, 11, 12, 3, 13, 14, 15, 16, 17, 18, 19, 269, 270, 271, 272, 273] (by decide +kernel) (by decide +kernel)) (goodIn_sub (fun _ h => List.mem_cons_of_mem _ (List.mem_append_right _ h)) (by decide +kernel))
set_option maxRecDepth 20000 in
theorem gX10_carry_X10_requireMessage : GoodIn wsX10_carry (wsV RX10 90 RX10 yX10_requireMessage wsX10_requireMessage) := goodIn_app (goodIn_of _ (by decide +kernel)) ggX10_carry_X10_requireMessage
set_option maxRecDepth 20000 in
theorem ggX10_carry_X8_hearAsk : GoodIn wsX10_carry wsX8_hearAsk := goodIn_r _ [24, 25, 26, 27, 28, 29, 30, 31, 32, 33, 23, 34, 35, 36, 37, 38, 39, 40, 41, 42, 43, 44, 45, 46, 47, 48, 49, 50, 51, 52, 53, 54, 55, 56, 57, 58, 59, 60, 61, 62, 63, 64, 65, 66, 67, 68, 69, 70, 71, 72, 73, 74, 75, 76, 77, 78, 79, 80, 81, 82, 83, 84, 85, 86, 87, 88, 89, 90, 91, 92, 93, 94, 95, 96, 97, 98, 99, 100, 101, 102, 103, 104, 105, 106, 107, 108, 109, 110, 111, 112, 113, 114, 115, 116, 117, 118, 119, 120, 121, 122, 123, 124, 125, 126, 127, 128, 129, 130, 131, 132, 133, 134, 135, 136, 137, 138, 139, 140, 141, 142, 143, 144, 145, 146, 147, 148, 149, 150, 151, 152, 153, 154, 155, 156, 157, 158, 159, 160, 161, 162, 163, 164, 165, 166, 167, 16, 168, 18, 19, 261, 262, 263, 264, 265, 266, 267, 268, 274, 275, 276, 277, 278, 279, 280, 281, 282, 283, 284, 285, 286, 287, 288, 289, 290, 291, 292, 293, 294, 295, 296, 297, 272, 273] (by decide +kernel) (by decide +kernel)
set_option maxRecDepth 20000 in
theorem gX10_carry_X8_hearAsk : GoodIn wsX10_carry (wsV RX10 99 RX8 yX8_hearAsk wsX8_hearAsk) := goodIn_app (goodIn_of _ (by decide +kernel)) ggX10_carry_X8_hearAsk
set_option maxRecDepth 20000 in
theorem ggX10_carry_X8_hearReturn : GoodIn wsX10_carry wsX8_hearReturn := goodIn_r _ [172, 25, 26, 27, 47, 28, 173, 48, 174, 175, 176, 65, 177, 98, 178, 179, 180, 181, 182, 183, 112, 184, 117, 185, 186, 187, 188, 189, 190, 191, 192, 193, 194, 195, 196, 197, 198, 199, 200, 116, 201, 202, 203, 204, 97, 205, 206, 207, 208, 209, 210, 211, 212, 213, 114, 115, 214, 162, 163, 164, 215, 216, 217, 218, 219, 220, 221, 133, 222, 67, 223, 224, 225, 261, 262, 263, 264, 265, 266, 267, 268, 274, 275, 276, 277, 278, 279, 286, 287, 288, 289, 290, 291, 292, 293, 294, 295, 296, 297] (by decide +kernel) (by decide +kernel)
set_option maxRecDepth 20000 in
theorem gX10_carry_X8_hearReturn : GoodIn wsX10_carry (wsV RX10 103 RX8 yX8_hearReturn wsX8_hearReturn) := goodIn_app (goodIn_of _ (by decide +kernel)) ggX10_carry_X8_hearReturn
set_option maxRecDepth 20000 in
theorem ggX10_carry_X3_hearGrant : GoodIn wsX10_carry wsX3_hearGrant := goodIn_r _ [230, 231, 232, 233, 234, 235, 236, 237, 238, 239, 240, 241, 242, 243, 244, 245, 246, 247, 248, 249, 250, 251, 252, 83, 84, 253, 254, 255, 256, 257, 258, 259, 260, 110, 111, 112, 113, 114, 115, 116, 117, 118, 119, 120, 121, 122, 123, 124, 125, 126, 127, 128, 129, 130, 131, 132, 133, 134, 135, 136, 137, 138, 139, 140, 141, 142, 143, 144, 145, 146, 147, 148, 149, 150, 151, 152, 153, 154, 155, 156, 157, 158, 159, 160, 161, 162, 163, 164, 261, 262, 263, 264, 265, 266, 267, 268, 298, 299, 300, 301, 302, 303, 304, 305, 306, 307, 308, 309, 310, 311, 312, 313, 295, 296, 297] (by decide +kernel) (by decide +kernel)
set_option maxRecDepth 20000 in
theorem gX10_carry_X3_hearGrant : GoodIn wsX10_carry (wsV RX10 110 RX3 yX3_hearGrant wsX3_hearGrant) := goodIn_app (goodIn_of _ (by decide +kernel)) ggX10_carry_X3_hearGrant
theorem dX10_carry_0 : decode cX10_carry 0 = .ok (.aload_n 0, 1) := by decide +kernel
theorem dX10_carry_1 : decode cX10_carry 1 = .ok (.iload_n 1, 1) := by decide +kernel
theorem dX10_carry_2 : decode cX10_carry 2 = .ok (.invokevirtual 90, 3) := by decide +kernel
theorem dX10_carry_5 : decode cX10_carry 5 = .ok (.astore_n 2, 1) := by decide +kernel
theorem dX10_carry_6 : decode cX10_carry 6 = .ok (.aload_n 2, 1) := by decide +kernel
theorem dX10_carry_7 : decode cX10_carry 7 = .ok (.getfield 94, 3) := by decide +kernel
theorem dX10_carry_10 : decode cX10_carry 10 = .ok (.lookupswitch 48 #[(0, 26), (2, 39)], 26) := by decide +kernel
theorem dX10_carry_36 : decode cX10_carry 36 = .ok (.aload_n 0, 1) := by decide +kernel
theorem dX10_carry_37 : decode cX10_carry 37 = .ok (.getfield 10, 3) := by decide +kernel
theorem dX10_carry_40 : decode cX10_carry 40 = .ok (.aload_n 2, 1) := by decide +kernel
theorem dX10_carry_41 : decode cX10_carry 41 = .ok (.aload_n 0, 1) := by decide +kernel
theorem dX10_carry_42 : decode cX10_carry 42 = .ok (.getfield 19, 3) := by decide +kernel
theorem dX10_carry_45 : decode cX10_carry 45 = .ok (.invokevirtual 99, 3) := by decide +kernel
theorem dX10_carry_48 : decode cX10_carry 48 = .ok (.ireturn, 1) := by decide +kernel
theorem dX10_carry_49 : decode cX10_carry 49 = .ok (.aload_n 0, 1) := by decide +kernel
theorem dX10_carry_50 : decode cX10_carry 50 = .ok (.getfield 10, 3) := by decide +kernel
theorem dX10_carry_53 : decode cX10_carry 53 = .ok (.aload_n 2, 1) := by decide +kernel
theorem dX10_carry_54 : decode cX10_carry 54 = .ok (.invokevirtual 103, 3) := by decide +kernel
theorem dX10_carry_57 : decode cX10_carry 57 = .ok (.ireturn, 1) := by decide +kernel
theorem dX10_carry_58 : decode cX10_carry 58 = .ok (.aload_n 0, 1) := by decide +kernel
theorem dX10_carry_59 : decode cX10_carry 59 = .ok (.getfield 25, 3) := by decide +kernel
theorem dX10_carry_62 : decode cX10_carry 62 = .ok (.aload_n 2, 1) := by decide +kernel
theorem dX10_carry_63 : decode cX10_carry 63 = .ok (.getfield 107, 3) := by decide +kernel
theorem dX10_carry_66 : decode cX10_carry 66 = .ok (.aaload, 1) := by decide +kernel
theorem dX10_carry_67 : decode cX10_carry 67 = .ok (.aload_n 2, 1) := by decide +kernel
theorem dX10_carry_68 : decode cX10_carry 68 = .ok (.invokevirtual 110, 3) := by decide +kernel
theorem dX10_carry_71 : decode cX10_carry 71 = .ok (.ireturn, 1) := by decide +kernel
set_option maxRecDepth 20000 in
theorem ggX10_drop_X10_requireMessage : GoodIn wsX10_drop wsX10_requireMessage := goodIn_ca (goodIn_r _ [6, 7, 8, 1, 9, 10, 11, 12, 13, 14, 15, 20, 21, 22, 23, 24] (by decide +kernel) (by decide +kernel)) (goodIn_sub (fun _ h => List.mem_cons_of_mem _ (List.mem_append_right _ h)) (by decide +kernel))
set_option maxRecDepth 20000 in
theorem gX10_drop_X10_requireMessage : GoodIn wsX10_drop (wsV RX10 90 RX10 yX10_requireMessage wsX10_requireMessage) := goodIn_app (goodIn_of _ (by decide +kernel)) ggX10_drop_X10_requireMessage
set_option maxRecDepth 20000 in
theorem ggX10_drop_X7_discard : GoodIn wsX10_drop wsX7_discard := goodIn_r _ [19, 14, 15, 23, 24] (by decide +kernel) (by decide +kernel)
set_option maxRecDepth 20000 in
theorem gX10_drop_X7_discard : GoodIn wsX10_drop (wsV RX10 113 RX7 yX7_discard wsX7_discard) := goodIn_app (goodIn_of _ (by decide +kernel)) ggX10_drop_X7_discard
theorem dX10_drop_0 : decode cX10_drop 0 = .ok (.aload_n 0, 1) := by decide +kernel
theorem dX10_drop_1 : decode cX10_drop 1 = .ok (.iload_n 1, 1) := by decide +kernel
theorem dX10_drop_2 : decode cX10_drop 2 = .ok (.invokevirtual 90, 3) := by decide +kernel
theorem dX10_drop_5 : decode cX10_drop 5 = .ok (.pop, 1) := by decide +kernel
theorem dX10_drop_6 : decode cX10_drop 6 = .ok (.aload_n 0, 1) := by decide +kernel
theorem dX10_drop_7 : decode cX10_drop 7 = .ok (.getfield 19, 3) := by decide +kernel
theorem dX10_drop_10 : decode cX10_drop 10 = .ok (.iload_n 1, 1) := by decide +kernel
theorem dX10_drop_11 : decode cX10_drop 11 = .ok (.invokevirtual 113, 3) := by decide +kernel
theorem dX10_drop_14 : decode cX10_drop 14 = .ok (.return_, 1) := by decide +kernel
set_option maxRecDepth 20000 in
theorem ggX10_tick_X10_requireWithin : GoodIn wsX10_tick wsX10_requireWithin := goodIn_ca (goodIn_r _ [7, 8, 9] (by decide +kernel) (by decide +kernel)) (goodIn_sub (fun _ h => List.mem_cons_of_mem _ (List.mem_append_right _ h)) (by decide +kernel))
set_option maxRecDepth 20000 in
theorem gX10_tick_X10_requireWithin : GoodIn wsX10_tick (va_wsS RX10 36 yX10_requireWithin wsX10_requireWithin) := goodIn_app (goodIn_of _ (by decide +kernel)) ggX10_tick_X10_requireWithin
set_option maxRecDepth 20000 in
theorem ggX10_tick_X8_advance : GoodIn wsX10_tick wsX8_advance := goodIn_r _ [14, 15, 16, 17, 18, 19, 20, 21, 22, 23, 24, 25, 26, 27, 28, 29, 30, 31, 32, 33, 34, 35, 36, 37, 38, 39, 40, 41, 42, 43, 44, 45, 46, 47, 48, 49, 50, 51, 52, 53, 54, 55, 56, 57, 58, 59, 60, 61, 62, 63, 64, 65, 66, 67, 68, 69, 70, 71, 72, 73, 74, 75, 76, 77, 78, 79, 80, 81, 82, 83, 84, 85, 86, 87, 88, 89, 90, 91, 92, 93, 94, 95, 96, 97, 98, 106, 107, 108, 109, 110, 111, 112, 113, 114, 115, 116, 117, 118, 119, 120, 121, 122, 123, 124, 125] (by decide +kernel) (by decide +kernel)
set_option maxRecDepth 20000 in
theorem gX10_tick_X8_advance : GoodIn wsX10_tick (wsV RX10 116 RX8 yX8_advance wsX8_advance) := goodIn_app (goodIn_of _ (by decide +kernel)) ggX10_tick_X8_advance
set_option maxRecDepth 20000 in
theorem ggX10_tick_X9_advance : GoodIn wsX10_tick wsX9_advance := goodIn_r _ [27, 22, 28, 112, 113] (by decide +kernel) (by decide +kernel)
set_option maxRecDepth 20000 in
theorem gX10_tick_X9_advance : GoodIn wsX10_tick (wsV RX10 123 RX9 yX9_advance wsX9_advance) := goodIn_app (goodIn_of _ (by decide +kernel)) ggX10_tick_X9_advance
theorem dX10_tick_0 : decode cX10_tick 0 = .ok (.iload_n 1, 1) := by decide +kernel
theorem dX10_tick_1 : decode cX10_tick 1 = .ok (.iconst 1, 1) := by decide +kernel
theorem dX10_tick_2 : decode cX10_tick 2 = .ok (.sipush 5000, 3) := by decide +kernel
theorem dX10_tick_5 : decode cX10_tick 5 = .ok (.invokestatic 36, 3) := by decide +kernel
theorem dX10_tick_8 : decode cX10_tick 8 = .ok (.aload_n 0, 1) := by decide +kernel
theorem dX10_tick_9 : decode cX10_tick 9 = .ok (.getfield 10, 3) := by decide +kernel
theorem dX10_tick_12 : decode cX10_tick 12 = .ok (.iload_n 1, 1) := by decide +kernel
theorem dX10_tick_13 : decode cX10_tick 13 = .ok (.invokevirtual 116, 3) := by decide +kernel
theorem dX10_tick_16 : decode cX10_tick 16 = .ok (.iconst 0, 1) := by decide +kernel
theorem dX10_tick_17 : decode cX10_tick 17 = .ok (.istore_n 2, 1) := by decide +kernel
theorem dX10_tick_18 : decode cX10_tick 18 = .ok (.iload_n 2, 1) := by decide +kernel
theorem dX10_tick_19 : decode cX10_tick 19 = .ok (.bipush 6, 2) := by decide +kernel
theorem dX10_tick_21 : decode cX10_tick 21 = .ok (.if_icmp .ge 22, 3) := by decide +kernel
theorem dX10_tick_24 : decode cX10_tick 24 = .ok (.aload_n 0, 1) := by decide +kernel
theorem dX10_tick_25 : decode cX10_tick 25 = .ok (.getfield 25, 3) := by decide +kernel
theorem dX10_tick_28 : decode cX10_tick 28 = .ok (.iload_n 2, 1) := by decide +kernel
theorem dX10_tick_29 : decode cX10_tick 29 = .ok (.aaload, 1) := by decide +kernel
theorem dX10_tick_30 : decode cX10_tick 30 = .ok (.getfield 119, 3) := by decide +kernel
theorem dX10_tick_33 : decode cX10_tick 33 = .ok (.iload_n 1, 1) := by decide +kernel
theorem dX10_tick_34 : decode cX10_tick 34 = .ok (.invokevirtual 123, 3) := by decide +kernel
theorem dX10_tick_37 : decode cX10_tick 37 = .ok (.iinc 2 1, 3) := by decide +kernel
theorem dX10_tick_40 : decode cX10_tick 40 = .ok (.goto (-22), 3) := by decide +kernel
theorem dX10_tick_43 : decode cX10_tick 43 = .ok (.return_, 1) := by decide +kernel
set_option maxRecDepth 20000 in
theorem ggX10_restart_X10_requireGate : GoodIn wsX10_restart wsX10_requireGate := goodIn_ca (goodIn_r _ [5, 6, 7, 4, 8, 9, 10] (by decide +kernel) (by decide +kernel)) (goodIn_sub (fun _ h => List.mem_cons_of_mem _ (List.mem_append_right _ h)) (by decide +kernel))
set_option maxRecDepth 20000 in
theorem gX10_restart_X10_requireGate : GoodIn wsX10_restart (va_wsS RX10 55 yX10_requireGate wsX10_requireGate) := goodIn_app (goodIn_of _ (by decide +kernel)) ggX10_restart_X10_requireGate
set_option maxRecDepth 20000 in
theorem ggX10_restart_X3_startAnew : GoodIn wsX10_restart wsX3_startAnew := goodIn_r _ [15, 16, 17, 18, 19, 20, 21, 22, 23, 24, 25, 26, 27, 28, 29, 30, 31, 32, 33, 34, 35, 36, 37, 38, 42, 43, 44, 45, 46, 47, 48, 49, 50, 51, 52, 53, 54, 55, 56] (by decide +kernel) (by decide +kernel)
set_option maxRecDepth 20000 in
theorem gX10_restart_X3_startAnew : GoodIn wsX10_restart (wsV RX10 124 RX3 yX3_startAnew wsX3_startAnew) := goodIn_app (goodIn_of _ (by decide +kernel)) ggX10_restart_X3_startAnew
theorem dX10_restart_0 : decode cX10_restart 0 = .ok (.iload_n 1, 1) := by decide +kernel
theorem dX10_restart_1 : decode cX10_restart 1 = .ok (.invokestatic 55, 3) := by decide +kernel
theorem dX10_restart_4 : decode cX10_restart 4 = .ok (.aload_n 0, 1) := by decide +kernel
theorem dX10_restart_5 : decode cX10_restart 5 = .ok (.getfield 25, 3) := by decide +kernel
theorem dX10_restart_8 : decode cX10_restart 8 = .ok (.iload_n 1, 1) := by decide +kernel
theorem dX10_restart_9 : decode cX10_restart 9 = .ok (.aaload, 1) := by decide +kernel
theorem dX10_restart_10 : decode cX10_restart 10 = .ok (.invokevirtual 124, 3) := by decide +kernel
theorem dX10_restart_13 : decode cX10_restart 13 = .ok (.ireturn, 1) := by decide +kernel
set_option maxRecDepth 20000 in
theorem ggX10_root_X10_requireKey : GoodIn wsX10_root wsX10_requireKey := goodIn_ca (goodIn_r _ [10, 11, 12, 9, 13, 14, 15] (by decide +kernel) (by decide +kernel)) (goodIn_sub (fun _ h => List.mem_cons_of_mem _ (List.mem_append_right _ h)) (by decide +kernel))
set_option maxRecDepth 20000 in
theorem gX10_root_X10_requireKey : GoodIn wsX10_root (va_wsS RX10 32 yX10_requireKey wsX10_requireKey) := goodIn_app (goodIn_of _ (by decide +kernel)) ggX10_root_X10_requireKey
set_option maxRecDepth 20000 in
theorem ggX10_root_X10_requireWithin : GoodIn wsX10_root wsX10_requireWithin := goodIn_ca (goodIn_r _ [13, 14, 15] (by decide +kernel) (by decide +kernel)) (goodIn_sub (fun _ h => List.mem_cons_of_mem _ (List.mem_append_right _ h)) (by decide +kernel))
set_option maxRecDepth 20000 in
theorem gX10_root_X10_requireWithin : GoodIn wsX10_root (va_wsS RX10 36 yX10_requireWithin wsX10_requireWithin) := goodIn_app (goodIn_of _ (by decide +kernel)) ggX10_root_X10_requireWithin
set_option maxRecDepth 20000 in
theorem ggX10_root_Jx4a65c_size_8abf5 : GoodIn wsX10_root wsJx4a65c_size_8abf5 := goodIn_r _ [20, 21, 37, 38, 39] (by decide +kernel) (by decide +kernel)
set_option maxRecDepth 20000 in
theorem gX10_root_Jx4a65c_size_8abf5 : GoodIn wsX10_root (wsV RX10 138 RJx4a65c yJx4a65c_size_8abf5 wsJx4a65c_size_8abf5) := goodIn_app (goodIn_of _ (by decide +kernel)) ggX10_root_Jx4a65c_size_8abf5
theorem dX10_root_0 : decode cX10_root 0 = .ok (.iload_n 1, 1) := by decide +kernel
theorem dX10_root_1 : decode cX10_root 1 = .ok (.invokestatic 32, 3) := by decide +kernel
theorem dX10_root_4 : decode cX10_root 4 = .ok (.iload_n 2, 1) := by decide +kernel
theorem dX10_root_5 : decode cX10_root 5 = .ok (.iconst 0, 1) := by decide +kernel
theorem dX10_root_6 : decode cX10_root 6 = .ok (.iconst 3, 1) := by decide +kernel
theorem dX10_root_7 : decode cX10_root 7 = .ok (.invokestatic 36, 3) := by decide +kernel
theorem dX10_root_10 : decode cX10_root 10 = .ok (.aload_n 0, 1) := by decide +kernel
theorem dX10_root_11 : decode cX10_root 11 = .ok (.getfield 10, 3) := by decide +kernel
theorem dX10_root_14 : decode cX10_root 14 = .ok (.getfield 41, 3) := by decide +kernel
theorem dX10_root_17 : decode cX10_root 17 = .ok (.iload_n 1, 1) := by decide +kernel
theorem dX10_root_18 : decode cX10_root 18 = .ok (.aaload, 1) := by decide +kernel
theorem dX10_root_19 : decode cX10_root 19 = .ok (.astore_n 3, 1) := by decide +kernel
theorem dX10_root_20 : decode cX10_root 20 = .ok (.iload_n 2, 1) := by decide +kernel
theorem dX10_root_21 : decode cX10_root 21 = .ok (.tableswitch 42 0 2 #[27, 32, 37], 27) := by decide +kernel
theorem dX10_root_48 : decode cX10_root 48 = .ok (.aload_n 3, 1) := by decide +kernel
theorem dX10_root_49 : decode cX10_root 49 = .ok (.getfield 80, 3) := by decide +kernel
theorem dX10_root_52 : decode cX10_root 52 = .ok (.ireturn, 1) := by decide +kernel
theorem dX10_root_53 : decode cX10_root 53 = .ok (.aload_n 3, 1) := by decide +kernel
theorem dX10_root_54 : decode cX10_root 54 = .ok (.getfield 128, 3) := by decide +kernel
theorem dX10_root_57 : decode cX10_root 57 = .ok (.ireturn, 1) := by decide +kernel
theorem dX10_root_58 : decode cX10_root 58 = .ok (.aload_n 3, 1) := by decide +kernel
theorem dX10_root_59 : decode cX10_root 59 = .ok (.getfield 131, 3) := by decide +kernel
theorem dX10_root_62 : decode cX10_root 62 = .ok (.ireturn, 1) := by decide +kernel
theorem dX10_root_63 : decode cX10_root 63 = .ok (.aload_n 3, 1) := by decide +kernel
theorem dX10_root_64 : decode cX10_root 64 = .ok (.getfield 134, 3) := by decide +kernel
theorem dX10_root_67 : decode cX10_root 67 = .ok (.invokevirtual 138, 3) := by decide +kernel
theorem dX10_root_70 : decode cX10_root 70 = .ok (.ireturn, 1) := by decide +kernel
set_option maxRecDepth 20000 in
theorem ggX10_gate_X10_requireGate : GoodIn wsX10_gate wsX10_requireGate := goodIn_ca (goodIn_r _ [13, 14, 15, 12, 16, 17, 18] (by decide +kernel) (by decide +kernel)) (goodIn_sub (fun _ h => List.mem_cons_of_mem _ (List.mem_append_right _ h)) (by decide +kernel))
set_option maxRecDepth 20000 in
theorem gX10_gate_X10_requireGate : GoodIn wsX10_gate (va_wsS RX10 55 yX10_requireGate wsX10_requireGate) := goodIn_app (goodIn_of _ (by decide +kernel)) ggX10_gate_X10_requireGate
set_option maxRecDepth 20000 in
theorem ggX10_gate_X10_requireKey : GoodIn wsX10_gate wsX10_requireKey := goodIn_ca (goodIn_r _ [21, 14, 15, 12, 16, 17, 18] (by decide +kernel) (by decide +kernel)) (goodIn_sub (fun _ h => List.mem_cons_of_mem _ (List.mem_append_right _ h)) (by decide +kernel))
set_option maxRecDepth 20000 in
theorem gX10_gate_X10_requireKey : GoodIn wsX10_gate (va_wsS RX10 32 yX10_requireKey wsX10_requireKey) := goodIn_app (goodIn_of _ (by decide +kernel)) ggX10_gate_X10_requireKey
set_option maxRecDepth 20000 in
theorem ggX10_gate_X10_requireWithin : GoodIn wsX10_gate wsX10_requireWithin := goodIn_ca (goodIn_r _ [16, 17, 18] (by decide +kernel) (by decide +kernel)) (goodIn_sub (fun _ h => List.mem_cons_of_mem _ (List.mem_append_right _ h)) (by decide +kernel))
set_option maxRecDepth 20000 in
theorem gX10_gate_X10_requireWithin : GoodIn wsX10_gate (va_wsS RX10 36 yX10_requireWithin wsX10_requireWithin) := goodIn_app (goodIn_of _ (by decide +kernel)) ggX10_gate_X10_requireWithin
set_option maxRecDepth 20000 in
theorem ggX10_gate_X9_now : GoodIn wsX10_gate wsX9_now := goodIn_r _ [26, 27, 28, 83, 84] (by decide +kernel) (by decide +kernel)
set_option maxRecDepth 20000 in
theorem gX10_gate_X9_now : GoodIn wsX10_gate (wsV RX10 147 RX9 yX9_now wsX9_now) := goodIn_app (goodIn_of _ (by decide +kernel)) ggX10_gate_X9_now
set_option maxRecDepth 20000 in
theorem ggX10_gate_X2_liveTokens : GoodIn wsX10_gate wsX2_liveTokens := goodIn_r _ [33, 34, 35, 36, 37, 38, 39, 40, 41, 42, 43, 44, 45, 46, 47, 48, 49, 50, 51, 52, 53, 54, 55, 56, 57, 58, 59, 60, 61, 62, 63, 64, 65, 66, 74, 75, 76, 77, 78, 79, 80, 81, 82, 85, 86, 87, 88, 89, 90, 91] (by decide +kernel) (by decide +kernel)
set_option maxRecDepth 20000 in
theorem gX10_gate_X2_liveTokens : GoodIn wsX10_gate (wsV RX10 150 RX2 yX2_liveTokens wsX2_liveTokens) := goodIn_app (goodIn_of _ (by decide +kernel)) ggX10_gate_X2_liveTokens
set_option maxRecDepth 20000 in
theorem ggX10_gate_Jx4a65c_size_8abf5 : GoodIn wsX10_gate wsJx4a65c_size_8abf5 := goodIn_r _ [41, 42, 89, 90, 91] (by decide +kernel) (by decide +kernel)
set_option maxRecDepth 20000 in
theorem gX10_gate_Jx4a65c_size_8abf5 : GoodIn wsX10_gate (wsV RX10 138 RJx4a65c yJx4a65c_size_8abf5 wsJx4a65c_size_8abf5) := goodIn_app (goodIn_of _ (by decide +kernel)) ggX10_gate_Jx4a65c_size_8abf5
theorem dX10_gate_0 : decode cX10_gate 0 = .ok (.iload_n 1, 1) := by decide +kernel
theorem dX10_gate_1 : decode cX10_gate 1 = .ok (.invokestatic 55, 3) := by decide +kernel
theorem dX10_gate_4 : decode cX10_gate 4 = .ok (.iload_n 2, 1) := by decide +kernel
theorem dX10_gate_5 : decode cX10_gate 5 = .ok (.invokestatic 32, 3) := by decide +kernel
theorem dX10_gate_8 : decode cX10_gate 8 = .ok (.iload_n 3, 1) := by decide +kernel
theorem dX10_gate_9 : decode cX10_gate 9 = .ok (.iconst 0, 1) := by decide +kernel
theorem dX10_gate_10 : decode cX10_gate 10 = .ok (.bipush 6, 2) := by decide +kernel
theorem dX10_gate_12 : decode cX10_gate 12 = .ok (.invokestatic 36, 3) := by decide +kernel
theorem dX10_gate_15 : decode cX10_gate 15 = .ok (.aload_n 0, 1) := by decide +kernel
theorem dX10_gate_16 : decode cX10_gate 16 = .ok (.getfield 25, 3) := by decide +kernel
theorem dX10_gate_19 : decode cX10_gate 19 = .ok (.iload_n 1, 1) := by decide +kernel
theorem dX10_gate_20 : decode cX10_gate 20 = .ok (.aaload, 1) := by decide +kernel
theorem dX10_gate_21 : decode cX10_gate 21 = .ok (.getfield 143, 3) := by decide +kernel
theorem dX10_gate_24 : decode cX10_gate 24 = .ok (.iload_n 2, 1) := by decide +kernel
theorem dX10_gate_25 : decode cX10_gate 25 = .ok (.aaload, 1) := by decide +kernel
theorem dX10_gate_26 : decode cX10_gate 26 = .ok (.astore 4, 2) := by decide +kernel
theorem dX10_gate_28 : decode cX10_gate 28 = .ok (.iload_n 3, 1) := by decide +kernel
theorem dX10_gate_29 : decode cX10_gate 29 = .ok (.tableswitch 98 0 5 #[39, 57, 66, 72, 78, 84], 39) := by decide +kernel
theorem dX10_gate_68 : decode cX10_gate 68 = .ok (.aload 4, 2) := by decide +kernel
theorem dX10_gate_70 : decode cX10_gate 70 = .ok (.aload_n 0, 1) := by decide +kernel
theorem dX10_gate_71 : decode cX10_gate 71 = .ok (.getfield 25, 3) := by decide +kernel
theorem dX10_gate_74 : decode cX10_gate 74 = .ok (.iload_n 1, 1) := by decide +kernel
theorem dX10_gate_75 : decode cX10_gate 75 = .ok (.aaload, 1) := by decide +kernel
theorem dX10_gate_76 : decode cX10_gate 76 = .ok (.getfield 119, 3) := by decide +kernel
theorem dX10_gate_79 : decode cX10_gate 79 = .ok (.invokevirtual 147, 3) := by decide +kernel
theorem dX10_gate_82 : decode cX10_gate 82 = .ok (.invokevirtual 150, 3) := by decide +kernel
theorem dX10_gate_85 : decode cX10_gate 85 = .ok (.ireturn, 1) := by decide +kernel
theorem dX10_gate_86 : decode cX10_gate 86 = .ok (.aload 4, 2) := by decide +kernel
theorem dX10_gate_88 : decode cX10_gate 88 = .ok (.getfield 156, 3) := by decide +kernel
theorem dX10_gate_91 : decode cX10_gate 91 = .ok (.invokevirtual 138, 3) := by decide +kernel
theorem dX10_gate_94 : decode cX10_gate 94 = .ok (.ireturn, 1) := by decide +kernel
theorem dX10_gate_95 : decode cX10_gate 95 = .ok (.aload 4, 2) := by decide +kernel
theorem dX10_gate_97 : decode cX10_gate 97 = .ok (.getfield 159, 3) := by decide +kernel
theorem dX10_gate_100 : decode cX10_gate 100 = .ok (.ireturn, 1) := by decide +kernel
theorem dX10_gate_101 : decode cX10_gate 101 = .ok (.aload 4, 2) := by decide +kernel
theorem dX10_gate_103 : decode cX10_gate 103 = .ok (.getfield 162, 3) := by decide +kernel
theorem dX10_gate_106 : decode cX10_gate 106 = .ok (.ireturn, 1) := by decide +kernel
theorem dX10_gate_107 : decode cX10_gate 107 = .ok (.aload 4, 2) := by decide +kernel
theorem dX10_gate_109 : decode cX10_gate 109 = .ok (.getfield 165, 3) := by decide +kernel
theorem dX10_gate_112 : decode cX10_gate 112 = .ok (.ireturn, 1) := by decide +kernel
theorem dX10_gate_113 : decode cX10_gate 113 = .ok (.aload 4, 2) := by decide +kernel
theorem dX10_gate_115 : decode cX10_gate 115 = .ok (.getfield 168, 3) := by decide +kernel
theorem dX10_gate_118 : decode cX10_gate 118 = .ok (.ifCond .eq 7, 3) := by decide +kernel
theorem dX10_gate_121 : decode cX10_gate 121 = .ok (.iconst 1, 1) := by decide +kernel
theorem dX10_gate_122 : decode cX10_gate 122 = .ok (.goto 4, 3) := by decide +kernel
theorem dX10_gate_125 : decode cX10_gate 125 = .ok (.iconst 0, 1) := by decide +kernel
theorem dX10_gate_126 : decode cX10_gate 126 = .ok (.ireturn, 1) := by decide +kernel
theorem dX10_gate_127 : decode cX10_gate 127 = .ok (.aload 4, 2) := by decide +kernel
theorem dX10_gate_129 : decode cX10_gate 129 = .ok (.getfield 172, 3) := by decide +kernel
theorem dX10_gate_132 : decode cX10_gate 132 = .ok (.ireturn, 1) := by decide +kernel
set_option maxRecDepth 20000 in
theorem ggX10_message_X10_requireMessage : GoodIn wsX10_message wsX10_requireMessage := goodIn_ca (goodIn_r _ [12, 13, 14, 15, 16, 17, 18, 19, 20, 21, 22, 34, 35, 36, 37, 38] (by decide +kernel) (by decide +kernel)) (goodIn_sub (fun _ h => List.mem_cons_of_mem _ (List.mem_append_right _ h)) (by decide +kernel))
set_option maxRecDepth 20000 in
theorem gX10_message_X10_requireMessage : GoodIn wsX10_message (wsV RX10 90 RX10 yX10_requireMessage wsX10_requireMessage) := goodIn_app (goodIn_of _ (by decide +kernel)) ggX10_message_X10_requireMessage
set_option maxRecDepth 20000 in
theorem ggX10_message_X10_requireWithin : GoodIn wsX10_message wsX10_requireWithin := goodIn_ca (goodIn_r _ [25, 13, 14] (by decide +kernel) (by decide +kernel)) (goodIn_sub (fun _ h => List.mem_cons_of_mem _ (List.mem_append_right _ h)) (by decide +kernel))
set_option maxRecDepth 20000 in
theorem gX10_message_X10_requireWithin : GoodIn wsX10_message (va_wsS RX10 36 yX10_requireWithin wsX10_requireWithin) := goodIn_app (goodIn_of _ (by decide +kernel)) ggX10_message_X10_requireWithin
theorem dX10_message_0 : decode cX10_message 0 = .ok (.aload_n 0, 1) := by decide +kernel
theorem dX10_message_1 : decode cX10_message 1 = .ok (.iload_n 1, 1) := by decide +kernel
theorem dX10_message_2 : decode cX10_message 2 = .ok (.invokevirtual 90, 3) := by decide +kernel
theorem dX10_message_5 : decode cX10_message 5 = .ok (.astore_n 3, 1) := by decide +kernel
theorem dX10_message_6 : decode cX10_message 6 = .ok (.iload_n 2, 1) := by decide +kernel
theorem dX10_message_7 : decode cX10_message 7 = .ok (.iconst 0, 1) := by decide +kernel
theorem dX10_message_8 : decode cX10_message 8 = .ok (.bipush 6, 2) := by decide +kernel
theorem dX10_message_10 : decode cX10_message 10 = .ok (.invokestatic 36, 3) := by decide +kernel
theorem dX10_message_13 : decode cX10_message 13 = .ok (.iload_n 2, 1) := by decide +kernel
theorem dX10_message_14 : decode cX10_message 14 = .ok (.tableswitch 68 0 5 #[38, 43, 48, 53, 58, 63], 38) := by decide +kernel
theorem dX10_message_52 : decode cX10_message 52 = .ok (.aload_n 3, 1) := by decide +kernel
theorem dX10_message_53 : decode cX10_message 53 = .ok (.getfield 94, 3) := by decide +kernel
theorem dX10_message_56 : decode cX10_message 56 = .ok (.ireturn, 1) := by decide +kernel
theorem dX10_message_57 : decode cX10_message 57 = .ok (.aload_n 3, 1) := by decide +kernel
theorem dX10_message_58 : decode cX10_message 58 = .ok (.getfield 107, 3) := by decide +kernel
theorem dX10_message_61 : decode cX10_message 61 = .ok (.ireturn, 1) := by decide +kernel
theorem dX10_message_62 : decode cX10_message 62 = .ok (.aload_n 3, 1) := by decide +kernel
theorem dX10_message_63 : decode cX10_message 63 = .ok (.getfield 175, 3) := by decide +kernel
theorem dX10_message_66 : decode cX10_message 66 = .ok (.ireturn, 1) := by decide +kernel
theorem dX10_message_67 : decode cX10_message 67 = .ok (.aload_n 3, 1) := by decide +kernel
theorem dX10_message_68 : decode cX10_message 68 = .ok (.getfield 178, 3) := by decide +kernel
theorem dX10_message_71 : decode cX10_message 71 = .ok (.ireturn, 1) := by decide +kernel
theorem dX10_message_72 : decode cX10_message 72 = .ok (.aload_n 3, 1) := by decide +kernel
theorem dX10_message_73 : decode cX10_message 73 = .ok (.getfield 181, 3) := by decide +kernel
theorem dX10_message_76 : decode cX10_message 76 = .ok (.ireturn, 1) := by decide +kernel
theorem dX10_message_77 : decode cX10_message 77 = .ok (.aload_n 3, 1) := by decide +kernel
theorem dX10_message_78 : decode cX10_message 78 = .ok (.getfield 184, 3) := by decide +kernel
theorem dX10_message_81 : decode cX10_message 81 = .ok (.ireturn, 1) := by decide +kernel
theorem dX10_message_82 : decode cX10_message 82 = .ok (.aload_n 3, 1) := by decide +kernel
theorem dX10_message_83 : decode cX10_message 83 = .ok (.getfield 185, 3) := by decide +kernel
theorem dX10_message_86 : decode cX10_message 86 = .ok (.ireturn, 1) := by decide +kernel
theorem dX10_sent_0 : decode cX10_sent 0 = .ok (.aload_n 0, 1) := by decide +kernel
theorem dX10_sent_1 : decode cX10_sent 1 = .ok (.getfield 19, 3) := by decide +kernel
theorem dX10_sent_4 : decode cX10_sent 4 = .ok (.getfield 83, 3) := by decide +kernel
theorem dX10_sent_7 : decode cX10_sent 7 = .ok (.ireturn, 1) := by decide +kernel
set_option maxRecDepth 20000 in
theorem ggX10_clock_X10_requireWithin : GoodIn wsX10_clock wsX10_requireWithin := goodIn_ca (goodIn_r _ [4, 5, 6] (by decide +kernel) (by decide +kernel)) (goodIn_sub (fun _ h => List.mem_cons_of_mem _ (List.mem_append_right _ h)) (by decide +kernel))
set_option maxRecDepth 20000 in
theorem gX10_clock_X10_requireWithin : GoodIn wsX10_clock (va_wsS RX10 36 yX10_requireWithin wsX10_requireWithin) := goodIn_app (goodIn_of _ (by decide +kernel)) ggX10_clock_X10_requireWithin
set_option maxRecDepth 20000 in
theorem ggX10_clock_X10_tickerOf : GoodIn wsX10_clock wsX10_tickerOf := goodIn_r _ [10, 11, 12, 13, 14, 22, 23, 24, 25, 26, 27, 28, 29, 30, 31, 32, 33] (by decide +kernel) (by decide +kernel)
set_option maxRecDepth 20000 in
theorem gX10_clock_X10_tickerOf : GoodIn wsX10_clock (wsV RX10 67 RX10 yX10_tickerOf wsX10_tickerOf) := goodIn_app (goodIn_of _ (by decide +kernel)) ggX10_clock_X10_tickerOf
set_option maxRecDepth 20000 in
theorem ggX10_clock_X9_now : GoodIn wsX10_clock wsX9_now := goodIn_r _ [19, 20, 21, 34, 35] (by decide +kernel) (by decide +kernel)
set_option maxRecDepth 20000 in
theorem gX10_clock_X9_now : GoodIn wsX10_clock (wsV RX10 147 RX9 yX9_now wsX9_now) := goodIn_app (goodIn_of _ (by decide +kernel)) ggX10_clock_X9_now
theorem dX10_clock_0 : decode cX10_clock 0 = .ok (.iload_n 1, 1) := by decide +kernel
theorem dX10_clock_1 : decode cX10_clock 1 = .ok (.iconst (-1), 1) := by decide +kernel
theorem dX10_clock_2 : decode cX10_clock 2 = .ok (.iconst 5, 1) := by decide +kernel
theorem dX10_clock_3 : decode cX10_clock 3 = .ok (.invokestatic 36, 3) := by decide +kernel
theorem dX10_clock_6 : decode cX10_clock 6 = .ok (.aload_n 0, 1) := by decide +kernel
theorem dX10_clock_7 : decode cX10_clock 7 = .ok (.iload_n 1, 1) := by decide +kernel
theorem dX10_clock_8 : decode cX10_clock 8 = .ok (.invokevirtual 67, 3) := by decide +kernel
theorem dX10_clock_11 : decode cX10_clock 11 = .ok (.invokevirtual 147, 3) := by decide +kernel
theorem dX10_clock_14 : decode cX10_clock 14 = .ok (.ireturn, 1) := by decide +kernel
theorem dX10_tickerOf_0 : decode cX10_tickerOf 0 = .ok (.iload_n 1, 1) := by decide +kernel
theorem dX10_tickerOf_1 : decode cX10_tickerOf 1 = .ok (.iconst (-1), 1) := by decide +kernel
theorem dX10_tickerOf_2 : decode cX10_tickerOf 2 = .ok (.if_icmp .ne 13, 3) := by decide +kernel
theorem dX10_tickerOf_5 : decode cX10_tickerOf 5 = .ok (.aload_n 0, 1) := by decide +kernel
theorem dX10_tickerOf_6 : decode cX10_tickerOf 6 = .ok (.getfield 10, 3) := by decide +kernel
theorem dX10_tickerOf_9 : decode cX10_tickerOf 9 = .ok (.getfield 188, 3) := by decide +kernel
theorem dX10_tickerOf_12 : decode cX10_tickerOf 12 = .ok (.goto 12, 3) := by decide +kernel
theorem dX10_tickerOf_15 : decode cX10_tickerOf 15 = .ok (.aload_n 0, 1) := by decide +kernel
theorem dX10_tickerOf_16 : decode cX10_tickerOf 16 = .ok (.getfield 25, 3) := by decide +kernel
theorem dX10_tickerOf_19 : decode cX10_tickerOf 19 = .ok (.iload_n 1, 1) := by decide +kernel
theorem dX10_tickerOf_20 : decode cX10_tickerOf 20 = .ok (.aaload, 1) := by decide +kernel
theorem dX10_tickerOf_21 : decode cX10_tickerOf 21 = .ok (.getfield 119, 3) := by decide +kernel
theorem dX10_tickerOf_24 : decode cX10_tickerOf 24 = .ok (.areturn, 1) := by decide +kernel
set_option maxRecDepth 20000 in
theorem ggX10_requireMessage_X7_find : GoodIn wsX10_requireMessage wsX7_find := goodIn_r _ [8, 9, 10, 14, 15] (by decide +kernel) (by decide +kernel)
set_option maxRecDepth 20000 in
theorem gX10_requireMessage_X7_find : GoodIn wsX10_requireMessage (wsV RX10 189 RX7 yX7_find wsX7_find) := goodIn_app (goodIn_of _ (by decide +kernel)) ggX10_requireMessage_X7_find
theorem dX10_requireMessage_0 : decode cX10_requireMessage 0 = .ok (.aload_n 0, 1) := by decide +kernel
theorem dX10_requireMessage_1 : decode cX10_requireMessage 1 = .ok (.getfield 19, 3) := by decide +kernel
theorem dX10_requireMessage_4 : decode cX10_requireMessage 4 = .ok (.iload_n 1, 1) := by decide +kernel
theorem dX10_requireMessage_5 : decode cX10_requireMessage 5 = .ok (.invokevirtual 189, 3) := by decide +kernel
theorem dX10_requireMessage_8 : decode cX10_requireMessage 8 = .ok (.astore_n 2, 1) := by decide +kernel
theorem dX10_requireMessage_9 : decode cX10_requireMessage 9 = .ok (.aload_n 2, 1) := by decide +kernel
theorem dX10_requireMessage_10 : decode cX10_requireMessage 10 = .ok (.ifnonnull 13, 3) := by decide +kernel
theorem dX10_requireMessage_13 : decode cX10_requireMessage 13 = .ok (.new 192, 3) := by decide +kernel
theorem dX10_requireMessage_16 : decode cX10_requireMessage 16 = .ok (.dup, 1) := by decide +kernel
theorem dX10_requireMessage_17 : decode cX10_requireMessage 17 = .ok (.ldc 194, 2) := by decide +kernel
theorem dX10_requireMessage_19 : decode cX10_requireMessage 19 = .ok (.invokespecial 196, 3) := by decide +kernel
theorem dX10_requireMessage_22 : decode cX10_requireMessage 22 = .ok (.athrow, 1) := by decide +kernel
theorem dX10_requireMessage_23 : decode cX10_requireMessage 23 = .ok (.aload_n 2, 1) := by decide +kernel
theorem dX10_requireMessage_24 : decode cX10_requireMessage 24 = .ok (.areturn, 1) := by decide +kernel
set_option maxRecDepth 20000 in
theorem ggX10_requireGate_X10_requireWithin : GoodIn wsX10_requireGate wsX10_requireWithin := goodIn_ca (goodIn_r _ [4, 5, 6] (by decide +kernel) (by decide +kernel)) (goodIn_sub (fun _ h => List.mem_cons_of_mem _ (List.mem_append_right _ h)) (by decide +kernel))
set_option maxRecDepth 20000 in
theorem gX10_requireGate_X10_requireWithin : GoodIn wsX10_requireGate (va_wsS RX10 36 yX10_requireWithin wsX10_requireWithin) := goodIn_app (goodIn_of _ (by decide +kernel)) ggX10_requireGate_X10_requireWithin
theorem dX10_requireGate_0 : decode cX10_requireGate 0 = .ok (.iload_n 0, 1) := by decide +kernel
theorem dX10_requireGate_1 : decode cX10_requireGate 1 = .ok (.iconst 0, 1) := by decide +kernel
theorem dX10_requireGate_2 : decode cX10_requireGate 2 = .ok (.iconst 5, 1) := by decide +kernel
theorem dX10_requireGate_3 : decode cX10_requireGate 3 = .ok (.invokestatic 36, 3) := by decide +kernel
theorem dX10_requireGate_6 : decode cX10_requireGate 6 = .ok (.return_, 1) := by decide +kernel
set_option maxRecDepth 20000 in
theorem ggX10_requireKey_X10_requireWithin : GoodIn wsX10_requireKey wsX10_requireWithin := goodIn_ca (goodIn_r _ [4, 5, 6] (by decide +kernel) (by decide +kernel)) (goodIn_sub (fun _ h => List.mem_cons_of_mem _ (List.mem_append_right _ h)) (by decide +kernel))
set_option maxRecDepth 20000 in
theorem gX10_requireKey_X10_requireWithin : GoodIn wsX10_requireKey (va_wsS RX10 36 yX10_requireWithin wsX10_requireWithin) := goodIn_app (goodIn_of _ (by decide +kernel)) ggX10_requireKey_X10_requireWithin
theorem dX10_requireKey_0 : decode cX10_requireKey 0 = .ok (.iload_n 0, 1) := by decide +kernel
theorem dX10_requireKey_1 : decode cX10_requireKey 1 = .ok (.iconst 0, 1) := by decide +kernel
theorem dX10_requireKey_2 : decode cX10_requireKey 2 = .ok (.bipush 7, 2) := by decide +kernel
theorem dX10_requireKey_4 : decode cX10_requireKey 4 = .ok (.invokestatic 36, 3) := by decide +kernel
theorem dX10_requireKey_7 : decode cX10_requireKey 7 = .ok (.return_, 1) := by decide +kernel
theorem dX10_requireWithin_0 : decode cX10_requireWithin 0 = .ok (.iload_n 0, 1) := by decide +kernel
theorem dX10_requireWithin_1 : decode cX10_requireWithin 1 = .ok (.iload_n 1, 1) := by decide +kernel
theorem dX10_requireWithin_2 : decode cX10_requireWithin 2 = .ok (.if_icmp .lt 8, 3) := by decide +kernel
theorem dX10_requireWithin_5 : decode cX10_requireWithin 5 = .ok (.iload_n 0, 1) := by decide +kernel
theorem dX10_requireWithin_6 : decode cX10_requireWithin 6 = .ok (.iload_n 2, 1) := by decide +kernel
theorem dX10_requireWithin_7 : decode cX10_requireWithin 7 = .ok (.if_icmp .le 13, 3) := by decide +kernel
theorem dX10_requireWithin_10 : decode cX10_requireWithin 10 = .ok (.new 192, 3) := by decide +kernel
theorem dX10_requireWithin_13 : decode cX10_requireWithin 13 = .ok (.dup, 1) := by decide +kernel
theorem dX10_requireWithin_14 : decode cX10_requireWithin 14 = .ok (.ldc 199, 2) := by decide +kernel
theorem dX10_requireWithin_16 : decode cX10_requireWithin 16 = .ok (.invokespecial 196, 3) := by decide +kernel
theorem dX10_requireWithin_19 : decode cX10_requireWithin 19 = .ok (.athrow, 1) := by decide +kernel
theorem dX10_requireWithin_20 : decode cX10_requireWithin 20 = .ok (.return_, 1) := by decide +kernel
theorem dX11_init_0 : decode cX11_init 0 = .ok (.aload_n 0, 1) := by decide +kernel
theorem dX11_init_1 : decode cX11_init 1 = .ok (.invokespecial 1, 3) := by decide +kernel
theorem dX11_init_4 : decode cX11_init 4 = .ok (.aload_n 0, 1) := by decide +kernel
theorem dX11_init_5 : decode cX11_init 5 = .ok (.bipush 7, 2) := by decide +kernel
theorem dX11_init_7 : decode cX11_init 7 = .ok (.newarray .long, 2) := by decide +kernel
theorem dX11_init_9 : decode cX11_init 9 = .ok (.putfield 7, 3) := by decide +kernel
theorem dX11_init_12 : decode cX11_init 12 = .ok (.aload_n 0, 1) := by decide +kernel
theorem dX11_init_13 : decode cX11_init 13 = .ok (.bipush 7, 2) := by decide +kernel
theorem dX11_init_15 : decode cX11_init 15 = .ok (.newarray .int, 2) := by decide +kernel
theorem dX11_init_17 : decode cX11_init 17 = .ok (.putfield 13, 3) := by decide +kernel
theorem dX11_init_20 : decode cX11_init 20 = .ok (.aload_n 0, 1) := by decide +kernel
theorem dX11_init_21 : decode cX11_init 21 = .ok (.bipush 8, 2) := by decide +kernel
theorem dX11_init_23 : decode cX11_init 23 = .ok (.newarray .int, 2) := by decide +kernel
theorem dX11_init_25 : decode cX11_init 25 = .ok (.putfield 17, 3) := by decide +kernel
theorem dX11_init_28 : decode cX11_init 28 = .ok (.aload_n 0, 1) := by decide +kernel
theorem dX11_init_29 : decode cX11_init 29 = .ok (.bipush 8, 2) := by decide +kernel
theorem dX11_init_31 : decode cX11_init 31 = .ok (.newarray .int, 2) := by decide +kernel
theorem dX11_init_33 : decode cX11_init 33 = .ok (.putfield 20, 3) := by decide +kernel
theorem dX11_init_36 : decode cX11_init 36 = .ok (.aload_n 0, 1) := by decide +kernel
theorem dX11_init_37 : decode cX11_init 37 = .ok (.bipush 8, 2) := by decide +kernel
theorem dX11_init_39 : decode cX11_init 39 = .ok (.newarray .long, 2) := by decide +kernel
theorem dX11_init_41 : decode cX11_init 41 = .ok (.putfield 23, 3) := by decide +kernel
theorem dX11_init_44 : decode cX11_init 44 = .ok (.aload_n 0, 1) := by decide +kernel
theorem dX11_init_45 : decode cX11_init 45 = .ok (.bipush 8, 2) := by decide +kernel
theorem dX11_init_47 : decode cX11_init 47 = .ok (.newarray .int, 2) := by decide +kernel
theorem dX11_init_49 : decode cX11_init 49 = .ok (.putfield 26, 3) := by decide +kernel
theorem dX11_init_52 : decode cX11_init 52 = .ok (.aload_n 0, 1) := by decide +kernel
theorem dX11_init_53 : decode cX11_init 53 = .ok (.sipush 300, 3) := by decide +kernel
theorem dX11_init_56 : decode cX11_init 56 = .ok (.newarray .int, 2) := by decide +kernel
theorem dX11_init_58 : decode cX11_init 58 = .ok (.putfield 29, 3) := by decide +kernel
theorem dX11_init_61 : decode cX11_init 61 = .ok (.aload_n 0, 1) := by decide +kernel
theorem dX11_init_62 : decode cX11_init 62 = .ok (.sipush 300, 3) := by decide +kernel
theorem dX11_init_65 : decode cX11_init 65 = .ok (.newarray .int, 2) := by decide +kernel
theorem dX11_init_67 : decode cX11_init 67 = .ok (.putfield 32, 3) := by decide +kernel
theorem dX11_init_70 : decode cX11_init 70 = .ok (.aload_n 0, 1) := by decide +kernel
theorem dX11_init_71 : decode cX11_init 71 = .ok (.sipush 300, 3) := by decide +kernel
theorem dX11_init_74 : decode cX11_init 74 = .ok (.newarray .int, 2) := by decide +kernel
theorem dX11_init_76 : decode cX11_init 76 = .ok (.putfield 35, 3) := by decide +kernel
theorem dX11_init_79 : decode cX11_init 79 = .ok (.aload_n 0, 1) := by decide +kernel
theorem dX11_init_80 : decode cX11_init 80 = .ok (.sipush 2000, 3) := by decide +kernel
theorem dX11_init_83 : decode cX11_init 83 = .ok (.putfield 38, 3) := by decide +kernel
theorem dX11_init_86 : decode cX11_init 86 = .ok (.aload_n 0, 1) := by decide +kernel
theorem dX11_init_87 : decode cX11_init 87 = .ok (.bipush 6, 2) := by decide +kernel
theorem dX11_init_89 : decode cX11_init 89 = .ok (.newarray .int, 2) := by decide +kernel
theorem dX11_init_91 : decode cX11_init 91 = .ok (.putfield 42, 3) := by decide +kernel
theorem dX11_init_94 : decode cX11_init 94 = .ok (.aload_n 0, 1) := by decide +kernel
theorem dX11_init_95 : decode cX11_init 95 = .ok (.bipush 48, 2) := by decide +kernel
theorem dX11_init_97 : decode cX11_init 97 = .ok (.newarray .int, 2) := by decide +kernel
theorem dX11_init_99 : decode cX11_init 99 = .ok (.putfield 45, 3) := by decide +kernel
theorem dX11_init_102 : decode cX11_init 102 = .ok (.aload_n 0, 1) := by decide +kernel
theorem dX11_init_103 : decode cX11_init 103 = .ok (.bipush 48, 2) := by decide +kernel
theorem dX11_init_105 : decode cX11_init 105 = .ok (.newarray .int, 2) := by decide +kernel
theorem dX11_init_107 : decode cX11_init 107 = .ok (.putfield 48, 3) := by decide +kernel
theorem dX11_init_110 : decode cX11_init 110 = .ok (.aload_n 0, 1) := by decide +kernel
theorem dX11_init_111 : decode cX11_init 111 = .ok (.bipush 48, 2) := by decide +kernel
theorem dX11_init_113 : decode cX11_init 113 = .ok (.newarray .int, 2) := by decide +kernel
theorem dX11_init_115 : decode cX11_init 115 = .ok (.putfield 51, 3) := by decide +kernel
theorem dX11_init_118 : decode cX11_init 118 = .ok (.aload_n 0, 1) := by decide +kernel
theorem dX11_init_119 : decode cX11_init 119 = .ok (.bipush 48, 2) := by decide +kernel
theorem dX11_init_121 : decode cX11_init 121 = .ok (.newarray .int, 2) := by decide +kernel
theorem dX11_init_123 : decode cX11_init 123 = .ok (.putfield 54, 3) := by decide +kernel
theorem dX11_init_126 : decode cX11_init 126 = .ok (.aload_n 0, 1) := by decide +kernel
theorem dX11_init_127 : decode cX11_init 127 = .ok (.bipush 48, 2) := by decide +kernel
theorem dX11_init_129 : decode cX11_init 129 = .ok (.newarray .boolean, 2) := by decide +kernel
theorem dX11_init_131 : decode cX11_init 131 = .ok (.putfield 57, 3) := by decide +kernel
theorem dX11_init_134 : decode cX11_init 134 = .ok (.aload_n 0, 1) := by decide +kernel
theorem dX11_init_135 : decode cX11_init 135 = .ok (.bipush 48, 2) := by decide +kernel
theorem dX11_init_137 : decode cX11_init 137 = .ok (.newarray .int, 2) := by decide +kernel
theorem dX11_init_139 : decode cX11_init 139 = .ok (.putfield 61, 3) := by decide +kernel
theorem dX11_init_142 : decode cX11_init 142 = .ok (.aload_n 0, 1) := by decide +kernel
theorem dX11_init_143 : decode cX11_init 143 = .ok (.bipush 48, 2) := by decide +kernel
theorem dX11_init_145 : decode cX11_init 145 = .ok (.newarray .int, 2) := by decide +kernel
theorem dX11_init_147 : decode cX11_init 147 = .ok (.putfield 64, 3) := by decide +kernel
theorem dX11_init_150 : decode cX11_init 150 = .ok (.aload_n 0, 1) := by decide +kernel
theorem dX11_init_151 : decode cX11_init 151 = .ok (.bipush 6, 2) := by decide +kernel
theorem dX11_init_153 : decode cX11_init 153 = .ok (.newarray .int, 2) := by decide +kernel
theorem dX11_init_155 : decode cX11_init 155 = .ok (.putfield 67, 3) := by decide +kernel
theorem dX11_init_158 : decode cX11_init 158 = .ok (.aload_n 0, 1) := by decide +kernel
theorem dX11_init_159 : decode cX11_init 159 = .ok (.bipush 48, 2) := by decide +kernel
theorem dX11_init_161 : decode cX11_init 161 = .ok (.newarray .int, 2) := by decide +kernel
theorem dX11_init_163 : decode cX11_init 163 = .ok (.putfield 70, 3) := by decide +kernel
theorem dX11_init_166 : decode cX11_init 166 = .ok (.aload_n 0, 1) := by decide +kernel
theorem dX11_init_167 : decode cX11_init 167 = .ok (.bipush 48, 2) := by decide +kernel
theorem dX11_init_169 : decode cX11_init 169 = .ok (.newarray .int, 2) := by decide +kernel
theorem dX11_init_171 : decode cX11_init 171 = .ok (.putfield 73, 3) := by decide +kernel
theorem dX11_init_174 : decode cX11_init 174 = .ok (.aload_n 0, 1) := by decide +kernel
theorem dX11_init_175 : decode cX11_init 175 = .ok (.bipush 48, 2) := by decide +kernel
theorem dX11_init_177 : decode cX11_init 177 = .ok (.newarray .int, 2) := by decide +kernel
theorem dX11_init_179 : decode cX11_init 179 = .ok (.putfield 76, 3) := by decide +kernel
theorem dX11_init_182 : decode cX11_init 182 = .ok (.aload_n 0, 1) := by decide +kernel
theorem dX11_init_183 : decode cX11_init 183 = .ok (.bipush 48, 2) := by decide +kernel
theorem dX11_init_185 : decode cX11_init 185 = .ok (.newarray .boolean, 2) := by decide +kernel
theorem dX11_init_187 : decode cX11_init 187 = .ok (.putfield 79, 3) := by decide +kernel
theorem dX11_init_190 : decode cX11_init 190 = .ok (.aload_n 0, 1) := by decide +kernel
theorem dX11_init_191 : decode cX11_init 191 = .ok (.bipush 48, 2) := by decide +kernel
theorem dX11_init_193 : decode cX11_init 193 = .ok (.newarray .int, 2) := by decide +kernel
theorem dX11_init_195 : decode cX11_init 195 = .ok (.putfield 82, 3) := by decide +kernel
theorem dX11_init_198 : decode cX11_init 198 = .ok (.aload_n 0, 1) := by decide +kernel
theorem dX11_init_199 : decode cX11_init 199 = .ok (.bipush 48, 2) := by decide +kernel
theorem dX11_init_201 : decode cX11_init 201 = .ok (.newarray .int, 2) := by decide +kernel
theorem dX11_init_203 : decode cX11_init 203 = .ok (.putfield 85, 3) := by decide +kernel
theorem dX11_init_206 : decode cX11_init 206 = .ok (.aload_n 0, 1) := by decide +kernel
theorem dX11_init_207 : decode cX11_init 207 = .ok (.sipush 300, 3) := by decide +kernel
theorem dX11_init_210 : decode cX11_init 210 = .ok (.newarray .int, 2) := by decide +kernel
theorem dX11_init_212 : decode cX11_init 212 = .ok (.putfield 88, 3) := by decide +kernel
theorem dX11_init_215 : decode cX11_init 215 = .ok (.aload_n 0, 1) := by decide +kernel
theorem dX11_init_216 : decode cX11_init 216 = .ok (.sipush 300, 3) := by decide +kernel
theorem dX11_init_219 : decode cX11_init 219 = .ok (.newarray .int, 2) := by decide +kernel
theorem dX11_init_221 : decode cX11_init 221 = .ok (.putfield 91, 3) := by decide +kernel
theorem dX11_init_224 : decode cX11_init 224 = .ok (.aload_n 0, 1) := by decide +kernel
theorem dX11_init_225 : decode cX11_init 225 = .ok (.sipush 300, 3) := by decide +kernel
theorem dX11_init_228 : decode cX11_init 228 = .ok (.newarray .int, 2) := by decide +kernel
theorem dX11_init_230 : decode cX11_init 230 = .ok (.putfield 94, 3) := by decide +kernel
theorem dX11_init_233 : decode cX11_init 233 = .ok (.aload_n 0, 1) := by decide +kernel
theorem dX11_init_234 : decode cX11_init 234 = .ok (.sipush 300, 3) := by decide +kernel
theorem dX11_init_237 : decode cX11_init 237 = .ok (.newarray .int, 2) := by decide +kernel
theorem dX11_init_239 : decode cX11_init 239 = .ok (.putfield 97, 3) := by decide +kernel
theorem dX11_init_242 : decode cX11_init 242 = .ok (.aload_n 0, 1) := by decide +kernel
theorem dX11_init_243 : decode cX11_init 243 = .ok (.sipush 2400, 3) := by decide +kernel
theorem dX11_init_246 : decode cX11_init 246 = .ok (.newarray .int, 2) := by decide +kernel
theorem dX11_init_248 : decode cX11_init 248 = .ok (.putfield 100, 3) := by decide +kernel
theorem dX11_init_251 : decode cX11_init 251 = .ok (.aload_n 0, 1) := by decide +kernel
theorem dX11_init_252 : decode cX11_init 252 = .ok (.sipush 300, 3) := by decide +kernel
theorem dX11_init_255 : decode cX11_init 255 = .ok (.newarray .boolean, 2) := by decide +kernel
theorem dX11_init_257 : decode cX11_init 257 = .ok (.putfield 103, 3) := by decide +kernel
theorem dX11_init_260 : decode cX11_init 260 = .ok (.iconst 0, 1) := by decide +kernel
theorem dX11_init_261 : decode cX11_init 261 = .ok (.istore_n 1, 1) := by decide +kernel
theorem dX11_init_262 : decode cX11_init 262 = .ok (.iload_n 1, 1) := by decide +kernel
theorem dX11_init_263 : decode cX11_init 263 = .ok (.bipush 7, 2) := by decide +kernel
theorem dX11_init_265 : decode cX11_init 265 = .ok (.if_icmp .ge 18, 3) := by decide +kernel
theorem dX11_init_268 : decode cX11_init 268 = .ok (.aload_n 0, 1) := by decide +kernel
theorem dX11_init_269 : decode cX11_init 269 = .ok (.getfield 13, 3) := by decide +kernel
theorem dX11_init_272 : decode cX11_init 272 = .ok (.iload_n 1, 1) := by decide +kernel
theorem dX11_init_273 : decode cX11_init 273 = .ok (.sipush 1000, 3) := by decide +kernel
theorem dX11_init_276 : decode cX11_init 276 = .ok (.iastore, 1) := by decide +kernel
theorem dX11_init_277 : decode cX11_init 277 = .ok (.iinc 1 1, 3) := by decide +kernel
theorem dX11_init_280 : decode cX11_init 280 = .ok (.goto (-18), 3) := by decide +kernel
theorem dX11_init_283 : decode cX11_init 283 = .ok (.iconst 0, 1) := by decide +kernel
theorem dX11_init_284 : decode cX11_init 284 = .ok (.istore_n 1, 1) := by decide +kernel
theorem dX11_init_285 : decode cX11_init 285 = .ok (.iload_n 1, 1) := by decide +kernel
theorem dX11_init_286 : decode cX11_init 286 = .ok (.bipush 48, 2) := by decide +kernel
theorem dX11_init_288 : decode cX11_init 288 = .ok (.if_icmp .ge 23, 3) := by decide +kernel
theorem dX11_init_291 : decode cX11_init 291 = .ok (.aload_n 0, 1) := by decide +kernel
theorem dX11_init_292 : decode cX11_init 292 = .ok (.getfield 64, 3) := by decide +kernel
theorem dX11_init_295 : decode cX11_init 295 = .ok (.iload_n 1, 1) := by decide +kernel
theorem dX11_init_296 : decode cX11_init 296 = .ok (.iconst 1, 1) := by decide +kernel
theorem dX11_init_297 : decode cX11_init 297 = .ok (.iastore, 1) := by decide +kernel
theorem dX11_init_298 : decode cX11_init 298 = .ok (.aload_n 0, 1) := by decide +kernel
theorem dX11_init_299 : decode cX11_init 299 = .ok (.getfield 45, 3) := by decide +kernel
theorem dX11_init_302 : decode cX11_init 302 = .ok (.iload_n 1, 1) := by decide +kernel
theorem dX11_init_303 : decode cX11_init 303 = .ok (.iconst (-1), 1) := by decide +kernel
theorem dX11_init_304 : decode cX11_init 304 = .ok (.iastore, 1) := by decide +kernel
theorem dX11_init_305 : decode cX11_init 305 = .ok (.iinc 1 1, 3) := by decide +kernel
theorem dX11_init_308 : decode cX11_init 308 = .ok (.goto (-23), 3) := by decide +kernel
theorem dX11_init_311 : decode cX11_init 311 = .ok (.return_, 1) := by decide +kernel
theorem dX11_thrown_0 : decode cX11_thrown 0 = .ok (.aload_n 0, 1) := by decide +kernel
theorem dX11_thrown_1 : decode cX11_thrown 1 = .ok (.getfield 106, 3) := by decide +kernel
theorem dX11_thrown_4 : decode cX11_thrown 4 = .ok (.ireturn, 1) := by decide +kernel
theorem dX11_refused_0 : decode cX11_refused 0 = .ok (.aload_n 0, 1) := by decide +kernel
theorem dX11_refused_1 : decode cX11_refused 1 = .ok (.iload_n 1, 1) := by decide +kernel
theorem dX11_refused_2 : decode cX11_refused 2 = .ok (.putfield 106, 3) := by decide +kernel
theorem dX11_refused_5 : decode cX11_refused 5 = .ok (.iload_n 1, 1) := by decide +kernel
theorem dX11_refused_6 : decode cX11_refused 6 = .ok (.ifCond .le 7, 3) := by decide +kernel
theorem dX11_refused_9 : decode cX11_refused 9 = .ok (.iconst 1, 1) := by decide +kernel
theorem dX11_refused_10 : decode cX11_refused 10 = .ok (.goto 4, 3) := by decide +kernel
theorem dX11_refused_13 : decode cX11_refused 13 = .ok (.iconst 0, 1) := by decide +kernel
theorem dX11_refused_14 : decode cX11_refused 14 = .ok (.ireturn, 1) := by decide +kernel
theorem dX11_isIn_0 : decode cX11_isIn 0 = .ok (.iload_n 0, 1) := by decide +kernel
theorem dX11_isIn_1 : decode cX11_isIn 1 = .ok (.iload_n 1, 1) := by decide +kernel
theorem dX11_isIn_2 : decode cX11_isIn 2 = .ok (.if_icmp .lt 12, 3) := by decide +kernel
theorem dX11_isIn_5 : decode cX11_isIn 5 = .ok (.iload_n 0, 1) := by decide +kernel
theorem dX11_isIn_6 : decode cX11_isIn 6 = .ok (.iload_n 2, 1) := by decide +kernel
theorem dX11_isIn_7 : decode cX11_isIn 7 = .ok (.if_icmp .gt 7, 3) := by decide +kernel
theorem dX11_isIn_10 : decode cX11_isIn 10 = .ok (.iconst 1, 1) := by decide +kernel
theorem dX11_isIn_11 : decode cX11_isIn 11 = .ok (.goto 4, 3) := by decide +kernel
theorem dX11_isIn_14 : decode cX11_isIn 14 = .ok (.iconst 0, 1) := by decide +kernel
theorem dX11_isIn_15 : decode cX11_isIn 15 = .ok (.ireturn, 1) := by decide +kernel
theorem dX11_clockOf_0 : decode cX11_clockOf 0 = .ok (.aload_n 0, 1) := by decide +kernel
theorem dX11_clockOf_1 : decode cX11_clockOf 1 = .ok (.getfield 7, 3) := by decide +kernel
theorem dX11_clockOf_4 : decode cX11_clockOf 4 = .ok (.iload_n 1, 1) := by decide +kernel
theorem dX11_clockOf_5 : decode cX11_clockOf 5 = .ok (.laload, 1) := by decide +kernel
theorem dX11_clockOf_6 : decode cX11_clockOf 6 = .ok (.ldc2_w 109, 3) := by decide +kernel
theorem dX11_clockOf_9 : decode cX11_clockOf 9 = .ok (.ldiv, 1) := by decide +kernel
theorem dX11_clockOf_10 : decode cX11_clockOf 10 = .ok (.l2i, 1) := by decide +kernel
theorem dX11_clockOf_11 : decode cX11_clockOf 11 = .ok (.ireturn, 1) := by decide +kernel
theorem dX11_lent_0 : decode cX11_lent 0 = .ok (.iconst 0, 1) := by decide +kernel
theorem dX11_lent_1 : decode cX11_lent 1 = .ok (.istore_n 2, 1) := by decide +kernel
theorem dX11_lent_2 : decode cX11_lent 2 = .ok (.iconst 0, 1) := by decide +kernel
theorem dX11_lent_3 : decode cX11_lent 3 = .ok (.istore_n 3, 1) := by decide +kernel
theorem dX11_lent_4 : decode cX11_lent 4 = .ok (.iload_n 3, 1) := by decide +kernel
theorem dX11_lent_5 : decode cX11_lent 5 = .ok (.aload_n 0, 1) := by decide +kernel
theorem dX11_lent_6 : decode cX11_lent 6 = .ok (.getfield 111, 3) := by decide +kernel
theorem dX11_lent_9 : decode cX11_lent 9 = .ok (.if_icmp .ge 32, 3) := by decide +kernel
theorem dX11_lent_12 : decode cX11_lent 12 = .ok (.aload_n 0, 1) := by decide +kernel
theorem dX11_lent_13 : decode cX11_lent 13 = .ok (.getfield 29, 3) := by decide +kernel
theorem dX11_lent_16 : decode cX11_lent 16 = .ok (.iload_n 3, 1) := by decide +kernel
theorem dX11_lent_17 : decode cX11_lent 17 = .ok (.iaload, 1) := by decide +kernel
theorem dX11_lent_18 : decode cX11_lent 18 = .ok (.iload_n 1, 1) := by decide +kernel
theorem dX11_lent_19 : decode cX11_lent 19 = .ok (.if_icmp .ne 14, 3) := by decide +kernel
theorem dX11_lent_22 : decode cX11_lent 22 = .ok (.iload_n 2, 1) := by decide +kernel
theorem dX11_lent_23 : decode cX11_lent 23 = .ok (.aload_n 0, 1) := by decide +kernel
theorem dX11_lent_24 : decode cX11_lent 24 = .ok (.getfield 32, 3) := by decide +kernel
theorem dX11_lent_27 : decode cX11_lent 27 = .ok (.iload_n 3, 1) := by decide +kernel
theorem dX11_lent_28 : decode cX11_lent 28 = .ok (.iaload, 1) := by decide +kernel
theorem dX11_lent_29 : decode cX11_lent 29 = .ok (.iadd, 1) := by decide +kernel
theorem dX11_lent_30 : decode cX11_lent 30 = .ok (.goto 4, 3) := by decide +kernel
theorem dX11_lent_33 : decode cX11_lent 33 = .ok (.iload_n 2, 1) := by decide +kernel
theorem dX11_lent_34 : decode cX11_lent 34 = .ok (.istore_n 2, 1) := by decide +kernel
theorem dX11_lent_35 : decode cX11_lent 35 = .ok (.iinc 3 1, 3) := by decide +kernel
theorem dX11_lent_38 : decode cX11_lent 38 = .ok (.goto (-34), 3) := by decide +kernel
theorem dX11_lent_41 : decode cX11_lent 41 = .ok (.iload_n 2, 1) := by decide +kernel
theorem dX11_lent_42 : decode cX11_lent 42 = .ok (.ireturn, 1) := by decide +kernel
set_option maxRecDepth 20000 in
theorem ggX11_fill_X11_lent : GoodIn wsX11_fill wsX11_lent := goodIn_r _ [8, 9, 10, 11, 12, 13, 14, 15, 16, 17, 18, 19, 20, 21, 22, 23, 24, 25, 26, 27, 28, 29, 30, 31, 32, 33, 34, 35, 36, 37, 38, 39, 40, 41, 42, 43, 44, 45] (by decide +kernel) (by decide +kernel)
set_option maxRecDepth 20000 in
theorem gX11_fill_X11_lent : GoodIn wsX11_fill (wsV RX11 114 RX11 yX11_lent wsX11_lent) := goodIn_app (goodIn_of _ (by decide +kernel)) ggX11_fill_X11_lent
theorem dX11_fill_0 : decode cX11_fill 0 = .ok (.ldc2_w 109, 3) := by decide +kernel
theorem dX11_fill_3 : decode cX11_fill 3 = .ok (.aload_n 0, 1) := by decide +kernel
theorem dX11_fill_4 : decode cX11_fill 4 = .ok (.getfield 20, 3) := by decide +kernel
theorem dX11_fill_7 : decode cX11_fill 7 = .ok (.iload_n 1, 1) := by decide +kernel
theorem dX11_fill_8 : decode cX11_fill 8 = .ok (.iaload, 1) := by decide +kernel
theorem dX11_fill_9 : decode cX11_fill 9 = .ok (.aload_n 0, 1) := by decide +kernel
theorem dX11_fill_10 : decode cX11_fill 10 = .ok (.iload_n 1, 1) := by decide +kernel
theorem dX11_fill_11 : decode cX11_fill 11 = .ok (.invokevirtual 114, 3) := by decide +kernel
theorem dX11_fill_14 : decode cX11_fill 14 = .ok (.isub, 1) := by decide +kernel
theorem dX11_fill_15 : decode cX11_fill 15 = .ok (.i2l, 1) := by decide +kernel
theorem dX11_fill_16 : decode cX11_fill 16 = .ok (.lmul, 1) := by decide +kernel
theorem dX11_fill_17 : decode cX11_fill 17 = .ok (.lstore 4, 2) := by decide +kernel
theorem dX11_fill_19 : decode cX11_fill 19 = .ok (.lload_n 2, 1) := by decide +kernel
theorem dX11_fill_20 : decode cX11_fill 20 = .ok (.lload 4, 2) := by decide +kernel
theorem dX11_fill_22 : decode cX11_fill 22 = .ok (.lcmp, 1) := by decide +kernel
theorem dX11_fill_23 : decode cX11_fill 23 = .ok (.ifCond .ge 7, 3) := by decide +kernel
theorem dX11_fill_26 : decode cX11_fill 26 = .ok (.lload_n 2, 1) := by decide +kernel
theorem dX11_fill_27 : decode cX11_fill 27 = .ok (.goto 5, 3) := by decide +kernel
theorem dX11_fill_30 : decode cX11_fill 30 = .ok (.lload 4, 2) := by decide +kernel
theorem dX11_fill_32 : decode cX11_fill 32 = .ok (.lstore 6, 2) := by decide +kernel
theorem dX11_fill_34 : decode cX11_fill 34 = .ok (.aload_n 0, 1) := by decide +kernel
theorem dX11_fill_35 : decode cX11_fill 35 = .ok (.getfield 23, 3) := by decide +kernel
theorem dX11_fill_38 : decode cX11_fill 38 = .ok (.iload_n 1, 1) := by decide +kernel
theorem dX11_fill_39 : decode cX11_fill 39 = .ok (.lload 6, 2) := by decide +kernel
theorem dX11_fill_41 : decode cX11_fill 41 = .ok (.lconst 0, 1) := by decide +kernel
theorem dX11_fill_42 : decode cX11_fill 42 = .ok (.lcmp, 1) := by decide +kernel
theorem dX11_fill_43 : decode cX11_fill 43 = .ok (.ifCond .le 8, 3) := by decide +kernel
theorem dX11_fill_46 : decode cX11_fill 46 = .ok (.lload 6, 2) := by decide +kernel
theorem dX11_fill_48 : decode cX11_fill 48 = .ok (.goto 4, 3) := by decide +kernel
theorem dX11_fill_51 : decode cX11_fill 51 = .ok (.lconst 0, 1) := by decide +kernel
theorem dX11_fill_52 : decode cX11_fill 52 = .ok (.lastore, 1) := by decide +kernel
theorem dX11_fill_53 : decode cX11_fill 53 = .ok (.return_, 1) := by decide +kernel
set_option maxRecDepth 20000 in
theorem ggX11_key_X11_isIn : GoodIn wsX11_key wsX11_isIn := goodIn_r _ [9] (by decide +kernel) (by decide +kernel)
set_option maxRecDepth 20000 in
theorem gX11_key_X11_isIn : GoodIn wsX11_key (va_wsS RX11 118 yX11_isIn wsX11_isIn) := goodIn_app (goodIn_of _ (by decide +kernel)) ggX11_key_X11_isIn
set_option maxRecDepth 20000 in
theorem ggX11_key_X11_refused : GoodIn wsX11_key wsX11_refused := goodIn_r _ [13, 14, 27, 28, 29, 30, 31, 32, 33, 34, 35, 36, 37, 38, 39, 40, 41, 42, 43, 44, 45, 46, 47, 48, 49, 50, 51, 52, 53, 54, 55, 56, 57, 58, 59, 60] (by decide +kernel) (by decide +kernel)
set_option maxRecDepth 20000 in
theorem gX11_key_X11_refused : GoodIn wsX11_key (wsV RX11 124 RX11 yX11_refused wsX11_refused) := goodIn_app (goodIn_of _ (by decide +kernel)) ggX11_key_X11_refused
set_option maxRecDepth 20000 in
theorem ggX11_key_X11_fill : GoodIn wsX11_key wsX11_fill := goodIn_r _ [18, 19, 4, 5, 20, 21, 22, 8, 23, 24, 25, 26, 27, 28, 29, 30, 31, 32, 33, 34, 35, 36, 37, 38, 39, 40, 41, 42, 43, 44, 45, 46, 47, 48, 49, 50, 51, 52, 53, 54, 55, 56, 57, 58, 59, 60] (by decide +kernel) (by decide +kernel)
set_option maxRecDepth 20000 in
theorem gX11_key_X11_fill : GoodIn wsX11_key (wsV RX11 128 RX11 yX11_fill wsX11_fill) := goodIn_app (goodIn_of _ (by decide +kernel)) ggX11_key_X11_fill
theorem dX11_key_0 : decode cX11_key 0 = .ok (.aload_n 0, 1) := by decide +kernel
theorem dX11_key_1 : decode cX11_key 1 = .ok (.iload_n 1, 1) := by decide +kernel
theorem dX11_key_2 : decode cX11_key 2 = .ok (.iconst 0, 1) := by decide +kernel
theorem dX11_key_3 : decode cX11_key 3 = .ok (.bipush 7, 2) := by decide +kernel
theorem dX11_key_5 : decode cX11_key 5 = .ok (.invokestatic 118, 3) := by decide +kernel
theorem dX11_key_8 : decode cX11_key 8 = .ok (.ifCond .eq 27, 3) := by decide +kernel
theorem dX11_key_11 : decode cX11_key 11 = .ok (.iload_n 2, 1) := by decide +kernel
theorem dX11_key_12 : decode cX11_key 12 = .ok (.iconst 0, 1) := by decide +kernel
theorem dX11_key_13 : decode cX11_key 13 = .ok (.ldc 122, 2) := by decide +kernel
theorem dX11_key_15 : decode cX11_key 15 = .ok (.invokestatic 118, 3) := by decide +kernel
theorem dX11_key_18 : decode cX11_key 18 = .ok (.ifCond .eq 17, 3) := by decide +kernel
theorem dX11_key_21 : decode cX11_key 21 = .ok (.iload_n 3, 1) := by decide +kernel
theorem dX11_key_22 : decode cX11_key 22 = .ok (.iconst 0, 1) := by decide +kernel
theorem dX11_key_23 : decode cX11_key 23 = .ok (.ldc 123, 2) := by decide +kernel
theorem dX11_key_25 : decode cX11_key 25 = .ok (.invokestatic 118, 3) := by decide +kernel
theorem dX11_key_28 : decode cX11_key 28 = .ok (.ifCond .eq 7, 3) := by decide +kernel
theorem dX11_key_31 : decode cX11_key 31 = .ok (.iconst 0, 1) := by decide +kernel
theorem dX11_key_32 : decode cX11_key 32 = .ok (.goto 4, 3) := by decide +kernel
theorem dX11_key_35 : decode cX11_key 35 = .ok (.iconst 1, 1) := by decide +kernel
theorem dX11_key_36 : decode cX11_key 36 = .ok (.invokevirtual 124, 3) := by decide +kernel
theorem dX11_key_39 : decode cX11_key 39 = .ok (.ifCond .eq 4, 3) := by decide +kernel
theorem dX11_key_42 : decode cX11_key 42 = .ok (.return_, 1) := by decide +kernel
theorem dX11_key_43 : decode cX11_key 43 = .ok (.aload_n 0, 1) := by decide +kernel
theorem dX11_key_44 : decode cX11_key 44 = .ok (.getfield 17, 3) := by decide +kernel
theorem dX11_key_47 : decode cX11_key 47 = .ok (.iload_n 1, 1) := by decide +kernel
theorem dX11_key_48 : decode cX11_key 48 = .ok (.iload_n 2, 1) := by decide +kernel
theorem dX11_key_49 : decode cX11_key 49 = .ok (.iastore, 1) := by decide +kernel
theorem dX11_key_50 : decode cX11_key 50 = .ok (.aload_n 0, 1) := by decide +kernel
theorem dX11_key_51 : decode cX11_key 51 = .ok (.getfield 20, 3) := by decide +kernel
theorem dX11_key_54 : decode cX11_key 54 = .ok (.iload_n 1, 1) := by decide +kernel
theorem dX11_key_55 : decode cX11_key 55 = .ok (.iload_n 3, 1) := by decide +kernel
theorem dX11_key_56 : decode cX11_key 56 = .ok (.iastore, 1) := by decide +kernel
theorem dX11_key_57 : decode cX11_key 57 = .ok (.aload_n 0, 1) := by decide +kernel
theorem dX11_key_58 : decode cX11_key 58 = .ok (.iload_n 1, 1) := by decide +kernel
theorem dX11_key_59 : decode cX11_key 59 = .ok (.aload_n 0, 1) := by decide +kernel
theorem dX11_key_60 : decode cX11_key 60 = .ok (.getfield 23, 3) := by decide +kernel
theorem dX11_key_63 : decode cX11_key 63 = .ok (.iload_n 1, 1) := by decide +kernel
theorem dX11_key_64 : decode cX11_key 64 = .ok (.laload, 1) := by decide +kernel
theorem dX11_key_65 : decode cX11_key 65 = .ok (.invokevirtual 128, 3) := by decide +kernel
theorem dX11_key_68 : decode cX11_key 68 = .ok (.return_, 1) := by decide +kernel
set_option maxRecDepth 20000 in
theorem ggX11_length_X11_isIn : GoodIn wsX11_length wsX11_isIn := goodIn_r _ [5] (by decide +kernel) (by decide +kernel)
set_option maxRecDepth 20000 in
theorem gX11_length_X11_isIn : GoodIn wsX11_length (va_wsS RX11 118 yX11_isIn wsX11_isIn) := goodIn_app (goodIn_of _ (by decide +kernel)) ggX11_length_X11_isIn
set_option maxRecDepth 20000 in
theorem ggX11_length_X11_refused : GoodIn wsX11_length wsX11_refused := goodIn_r _ [9, 10, 11, 12, 13, 14, 15, 16, 17, 18, 19, 20, 21, 22, 23, 24, 25, 26, 27, 28, 29, 30, 31, 32, 33, 34, 35, 36, 37, 38, 39, 40, 41, 42, 43, 44] (by decide +kernel) (by decide +kernel)
set_option maxRecDepth 20000 in
theorem gX11_length_X11_refused : GoodIn wsX11_length (wsV RX11 124 RX11 yX11_refused wsX11_refused) := goodIn_app (goodIn_of _ (by decide +kernel)) ggX11_length_X11_refused
theorem dX11_length_0 : decode cX11_length 0 = .ok (.aload_n 0, 1) := by decide +kernel
theorem dX11_length_1 : decode cX11_length 1 = .ok (.iload_n 1, 1) := by decide +kernel
theorem dX11_length_2 : decode cX11_length 2 = .ok (.bipush 10, 2) := by decide +kernel
theorem dX11_length_4 : decode cX11_length 4 = .ok (.sipush 9000, 3) := by decide +kernel
theorem dX11_length_7 : decode cX11_length 7 = .ok (.invokestatic 118, 3) := by decide +kernel
theorem dX11_length_10 : decode cX11_length 10 = .ok (.ifCond .eq 7, 3) := by decide +kernel
theorem dX11_length_13 : decode cX11_length 13 = .ok (.iconst 0, 1) := by decide +kernel
theorem dX11_length_14 : decode cX11_length 14 = .ok (.goto 4, 3) := by decide +kernel
theorem dX11_length_17 : decode cX11_length 17 = .ok (.iconst 1, 1) := by decide +kernel
theorem dX11_length_18 : decode cX11_length 18 = .ok (.invokevirtual 124, 3) := by decide +kernel
theorem dX11_length_21 : decode cX11_length 21 = .ok (.ifCond .eq 4, 3) := by decide +kernel
theorem dX11_length_24 : decode cX11_length 24 = .ok (.return_, 1) := by decide +kernel
theorem dX11_length_25 : decode cX11_length 25 = .ok (.aload_n 0, 1) := by decide +kernel
theorem dX11_length_26 : decode cX11_length 26 = .ok (.iload_n 1, 1) := by decide +kernel
theorem dX11_length_27 : decode cX11_length 27 = .ok (.putfield 38, 3) := by decide +kernel
theorem dX11_length_30 : decode cX11_length 30 = .ok (.return_, 1) := by decide +kernel
set_option maxRecDepth 20000 in
theorem ggX11_weight_X11_isIn : GoodIn wsX11_weight wsX11_isIn := goodIn_r _ [5] (by decide +kernel) (by decide +kernel)
set_option maxRecDepth 20000 in
theorem gX11_weight_X11_isIn : GoodIn wsX11_weight (va_wsS RX11 118 yX11_isIn wsX11_isIn) := goodIn_app (goodIn_of _ (by decide +kernel)) ggX11_weight_X11_isIn
set_option maxRecDepth 20000 in
theorem ggX11_weight_X11_refused : GoodIn wsX11_weight wsX11_refused := goodIn_r _ [9, 10, 11, 12, 13, 14, 15, 16, 17, 18, 19, 20, 21, 22, 23, 24, 25, 26, 27, 28, 29, 30, 31, 32, 33, 34, 35, 36, 37, 38, 39, 40, 41, 42, 43, 44] (by decide +kernel) (by decide +kernel)
set_option maxRecDepth 20000 in
theorem gX11_weight_X11_refused : GoodIn wsX11_weight (wsV RX11 124 RX11 yX11_refused wsX11_refused) := goodIn_app (goodIn_of _ (by decide +kernel)) ggX11_weight_X11_refused
theorem dX11_weight_0 : decode cX11_weight 0 = .ok (.aload_n 0, 1) := by decide +kernel
theorem dX11_weight_1 : decode cX11_weight 1 = .ok (.iload_n 1, 1) := by decide +kernel
theorem dX11_weight_2 : decode cX11_weight 2 = .ok (.iconst 0, 1) := by decide +kernel
theorem dX11_weight_3 : decode cX11_weight 3 = .ok (.iconst 5, 1) := by decide +kernel
theorem dX11_weight_4 : decode cX11_weight 4 = .ok (.invokestatic 118, 3) := by decide +kernel
theorem dX11_weight_7 : decode cX11_weight 7 = .ok (.ifCond .eq 27, 3) := by decide +kernel
theorem dX11_weight_10 : decode cX11_weight 10 = .ok (.iload_n 2, 1) := by decide +kernel
theorem dX11_weight_11 : decode cX11_weight 11 = .ok (.iconst 0, 1) := by decide +kernel
theorem dX11_weight_12 : decode cX11_weight 12 = .ok (.bipush 7, 2) := by decide +kernel
theorem dX11_weight_14 : decode cX11_weight 14 = .ok (.invokestatic 118, 3) := by decide +kernel
theorem dX11_weight_17 : decode cX11_weight 17 = .ok (.ifCond .eq 17, 3) := by decide +kernel
theorem dX11_weight_20 : decode cX11_weight 20 = .ok (.iload_n 3, 1) := by decide +kernel
theorem dX11_weight_21 : decode cX11_weight 21 = .ok (.iconst 1, 1) := by decide +kernel
theorem dX11_weight_22 : decode cX11_weight 22 = .ok (.bipush 100, 2) := by decide +kernel
theorem dX11_weight_24 : decode cX11_weight 24 = .ok (.invokestatic 118, 3) := by decide +kernel
theorem dX11_weight_27 : decode cX11_weight 27 = .ok (.ifCond .eq 7, 3) := by decide +kernel
theorem dX11_weight_30 : decode cX11_weight 30 = .ok (.iconst 0, 1) := by decide +kernel
theorem dX11_weight_31 : decode cX11_weight 31 = .ok (.goto 4, 3) := by decide +kernel
theorem dX11_weight_34 : decode cX11_weight 34 = .ok (.iconst 1, 1) := by decide +kernel
theorem dX11_weight_35 : decode cX11_weight 35 = .ok (.invokevirtual 124, 3) := by decide +kernel
theorem dX11_weight_38 : decode cX11_weight 38 = .ok (.ifCond .eq 4, 3) := by decide +kernel
theorem dX11_weight_41 : decode cX11_weight 41 = .ok (.return_, 1) := by decide +kernel
theorem dX11_weight_42 : decode cX11_weight 42 = .ok (.aload_n 0, 1) := by decide +kernel
theorem dX11_weight_43 : decode cX11_weight 43 = .ok (.getfield 64, 3) := by decide +kernel
theorem dX11_weight_46 : decode cX11_weight 46 = .ok (.bipush 8, 2) := by decide +kernel
theorem dX11_weight_48 : decode cX11_weight 48 = .ok (.iload_n 1, 1) := by decide +kernel
theorem dX11_weight_49 : decode cX11_weight 49 = .ok (.imul, 1) := by decide +kernel
theorem dX11_weight_50 : decode cX11_weight 50 = .ok (.iload_n 2, 1) := by decide +kernel
theorem dX11_weight_51 : decode cX11_weight 51 = .ok (.iadd, 1) := by decide +kernel
theorem dX11_weight_52 : decode cX11_weight 52 = .ok (.iload_n 3, 1) := by decide +kernel
theorem dX11_weight_53 : decode cX11_weight 53 = .ok (.iastore, 1) := by decide +kernel
theorem dX11_weight_54 : decode cX11_weight 54 = .ok (.return_, 1) := by decide +kernel
set_option maxRecDepth 20000 in
theorem ggX11_speed_X11_isIn : GoodIn wsX11_speed wsX11_isIn := goodIn_r _ [5] (by decide +kernel) (by decide +kernel)
set_option maxRecDepth 20000 in
theorem gX11_speed_X11_isIn : GoodIn wsX11_speed (va_wsS RX11 118 yX11_isIn wsX11_isIn) := goodIn_app (goodIn_of _ (by decide +kernel)) ggX11_speed_X11_isIn
set_option maxRecDepth 20000 in
theorem ggX11_speed_X11_refused : GoodIn wsX11_speed wsX11_refused := goodIn_r _ [9, 10, 11, 12, 13, 14, 15, 16, 17, 18, 19, 20, 21, 22, 23, 24, 25, 26, 27, 28, 29, 30, 31, 32, 33, 34, 35, 36, 37, 38, 39, 40, 41, 42, 43, 44] (by decide +kernel) (by decide +kernel)
set_option maxRecDepth 20000 in
theorem gX11_speed_X11_refused : GoodIn wsX11_speed (wsV RX11 124 RX11 yX11_refused wsX11_refused) := goodIn_app (goodIn_of _ (by decide +kernel)) ggX11_speed_X11_refused
theorem dX11_speed_0 : decode cX11_speed 0 = .ok (.aload_n 0, 1) := by decide +kernel
theorem dX11_speed_1 : decode cX11_speed 1 = .ok (.iload_n 1, 1) := by decide +kernel
theorem dX11_speed_2 : decode cX11_speed 2 = .ok (.iconst (-1), 1) := by decide +kernel
theorem dX11_speed_3 : decode cX11_speed 3 = .ok (.iconst 5, 1) := by decide +kernel
theorem dX11_speed_4 : decode cX11_speed 4 = .ok (.invokestatic 118, 3) := by decide +kernel
theorem dX11_speed_7 : decode cX11_speed 7 = .ok (.ifCond .eq 20, 3) := by decide +kernel
theorem dX11_speed_10 : decode cX11_speed 10 = .ok (.iload_n 2, 1) := by decide +kernel
theorem dX11_speed_11 : decode cX11_speed 11 = .ok (.sipush 999, 3) := by decide +kernel
theorem dX11_speed_14 : decode cX11_speed 14 = .ok (.sipush 1001, 3) := by decide +kernel
theorem dX11_speed_17 : decode cX11_speed 17 = .ok (.invokestatic 118, 3) := by decide +kernel
theorem dX11_speed_20 : decode cX11_speed 20 = .ok (.ifCond .eq 7, 3) := by decide +kernel
theorem dX11_speed_23 : decode cX11_speed 23 = .ok (.iconst 0, 1) := by decide +kernel
theorem dX11_speed_24 : decode cX11_speed 24 = .ok (.goto 4, 3) := by decide +kernel
theorem dX11_speed_27 : decode cX11_speed 27 = .ok (.iconst 1, 1) := by decide +kernel
theorem dX11_speed_28 : decode cX11_speed 28 = .ok (.invokevirtual 124, 3) := by decide +kernel
theorem dX11_speed_31 : decode cX11_speed 31 = .ok (.ifCond .eq 4, 3) := by decide +kernel
theorem dX11_speed_34 : decode cX11_speed 34 = .ok (.return_, 1) := by decide +kernel
theorem dX11_speed_35 : decode cX11_speed 35 = .ok (.aload_n 0, 1) := by decide +kernel
theorem dX11_speed_36 : decode cX11_speed 36 = .ok (.getfield 13, 3) := by decide +kernel
theorem dX11_speed_39 : decode cX11_speed 39 = .ok (.iload_n 1, 1) := by decide +kernel
theorem dX11_speed_40 : decode cX11_speed 40 = .ok (.ifCond .ge 8, 3) := by decide +kernel
theorem dX11_speed_43 : decode cX11_speed 43 = .ok (.bipush 6, 2) := by decide +kernel
theorem dX11_speed_45 : decode cX11_speed 45 = .ok (.goto 4, 3) := by decide +kernel
theorem dX11_speed_48 : decode cX11_speed 48 = .ok (.iload_n 1, 1) := by decide +kernel
theorem dX11_speed_49 : decode cX11_speed 49 = .ok (.iload_n 2, 1) := by decide +kernel
theorem dX11_speed_50 : decode cX11_speed 50 = .ok (.iastore, 1) := by decide +kernel
theorem dX11_speed_51 : decode cX11_speed 51 = .ok (.return_, 1) := by decide +kernel
theorem dX11_nextEnd_0 : decode cX11_nextEnd 0 = .ok (.iconst (-1), 1) := by decide +kernel
theorem dX11_nextEnd_1 : decode cX11_nextEnd 1 = .ok (.istore_n 2, 1) := by decide +kernel
theorem dX11_nextEnd_2 : decode cX11_nextEnd 2 = .ok (.iconst 0, 1) := by decide +kernel
theorem dX11_nextEnd_3 : decode cX11_nextEnd 3 = .ok (.istore_n 3, 1) := by decide +kernel
theorem dX11_nextEnd_4 : decode cX11_nextEnd 4 = .ok (.iload_n 3, 1) := by decide +kernel
theorem dX11_nextEnd_5 : decode cX11_nextEnd 5 = .ok (.aload_n 0, 1) := by decide +kernel
theorem dX11_nextEnd_6 : decode cX11_nextEnd 6 = .ok (.getfield 111, 3) := by decide +kernel
theorem dX11_nextEnd_9 : decode cX11_nextEnd 9 = .ok (.if_icmp .ge 49, 3) := by decide +kernel
theorem dX11_nextEnd_12 : decode cX11_nextEnd 12 = .ok (.aload_n 0, 1) := by decide +kernel
theorem dX11_nextEnd_13 : decode cX11_nextEnd 13 = .ok (.getfield 32, 3) := by decide +kernel
theorem dX11_nextEnd_16 : decode cX11_nextEnd 16 = .ok (.iload_n 3, 1) := by decide +kernel
theorem dX11_nextEnd_17 : decode cX11_nextEnd 17 = .ok (.iaload, 1) := by decide +kernel
theorem dX11_nextEnd_18 : decode cX11_nextEnd 18 = .ok (.ifCond .le 34, 3) := by decide +kernel
theorem dX11_nextEnd_21 : decode cX11_nextEnd 21 = .ok (.aload_n 0, 1) := by decide +kernel
theorem dX11_nextEnd_22 : decode cX11_nextEnd 22 = .ok (.getfield 35, 3) := by decide +kernel
theorem dX11_nextEnd_25 : decode cX11_nextEnd 25 = .ok (.iload_n 3, 1) := by decide +kernel
theorem dX11_nextEnd_26 : decode cX11_nextEnd 26 = .ok (.iaload, 1) := by decide +kernel
theorem dX11_nextEnd_27 : decode cX11_nextEnd 27 = .ok (.iload_n 1, 1) := by decide +kernel
theorem dX11_nextEnd_28 : decode cX11_nextEnd 28 = .ok (.if_icmp .le 24, 3) := by decide +kernel
theorem dX11_nextEnd_31 : decode cX11_nextEnd 31 = .ok (.iload_n 2, 1) := by decide +kernel
theorem dX11_nextEnd_32 : decode cX11_nextEnd 32 = .ok (.ifCond .lt 13, 3) := by decide +kernel
theorem dX11_nextEnd_35 : decode cX11_nextEnd 35 = .ok (.aload_n 0, 1) := by decide +kernel
theorem dX11_nextEnd_36 : decode cX11_nextEnd 36 = .ok (.getfield 35, 3) := by decide +kernel
theorem dX11_nextEnd_39 : decode cX11_nextEnd 39 = .ok (.iload_n 3, 1) := by decide +kernel
theorem dX11_nextEnd_40 : decode cX11_nextEnd 40 = .ok (.iaload, 1) := by decide +kernel
theorem dX11_nextEnd_41 : decode cX11_nextEnd 41 = .ok (.iload_n 2, 1) := by decide +kernel
theorem dX11_nextEnd_42 : decode cX11_nextEnd 42 = .ok (.if_icmp .ge 10, 3) := by decide +kernel
theorem dX11_nextEnd_45 : decode cX11_nextEnd 45 = .ok (.aload_n 0, 1) := by decide +kernel
theorem dX11_nextEnd_46 : decode cX11_nextEnd 46 = .ok (.getfield 35, 3) := by decide +kernel
theorem dX11_nextEnd_49 : decode cX11_nextEnd 49 = .ok (.iload_n 3, 1) := by decide +kernel
theorem dX11_nextEnd_50 : decode cX11_nextEnd 50 = .ok (.iaload, 1) := by decide +kernel
theorem dX11_nextEnd_51 : decode cX11_nextEnd 51 = .ok (.istore_n 2, 1) := by decide +kernel
theorem dX11_nextEnd_52 : decode cX11_nextEnd 52 = .ok (.iinc 3 1, 3) := by decide +kernel
theorem dX11_nextEnd_55 : decode cX11_nextEnd 55 = .ok (.goto (-51), 3) := by decide +kernel
theorem dX11_nextEnd_58 : decode cX11_nextEnd 58 = .ok (.iload_n 2, 1) := by decide +kernel
theorem dX11_nextEnd_59 : decode cX11_nextEnd 59 = .ok (.ireturn, 1) := by decide +kernel
set_option maxRecDepth 20000 in
theorem ggX11_fillAll_X11_fill : GoodIn wsX11_fillAll wsX11_fill := goodIn_r _ [7, 8, 9, 1, 10, 11, 12, 6, 13, 14, 15, 16, 17, 18, 19, 20, 21, 22, 23, 24, 25, 26, 27, 28, 29, 30, 31, 32, 33, 34, 35, 36, 37, 38, 39, 40, 41, 42, 43, 44, 45, 46, 47, 48, 49, 50] (by decide +kernel) (by decide +kernel)
set_option maxRecDepth 20000 in
theorem gX11_fillAll_X11_fill : GoodIn wsX11_fillAll (wsV RX11 128 RX11 yX11_fill wsX11_fill) := goodIn_app (goodIn_of _ (by decide +kernel)) ggX11_fillAll_X11_fill
theorem dX11_fillAll_0 : decode cX11_fillAll 0 = .ok (.iconst 0, 1) := by decide +kernel
theorem dX11_fillAll_1 : decode cX11_fillAll 1 = .ok (.istore_n 2, 1) := by decide +kernel
theorem dX11_fillAll_2 : decode cX11_fillAll 2 = .ok (.iload_n 2, 1) := by decide +kernel
theorem dX11_fillAll_3 : decode cX11_fillAll 3 = .ok (.bipush 8, 2) := by decide +kernel
theorem dX11_fillAll_5 : decode cX11_fillAll 5 = .ok (.if_icmp .ge 31, 3) := by decide +kernel
theorem dX11_fillAll_8 : decode cX11_fillAll 8 = .ok (.aload_n 0, 1) := by decide +kernel
theorem dX11_fillAll_9 : decode cX11_fillAll 9 = .ok (.iload_n 2, 1) := by decide +kernel
theorem dX11_fillAll_10 : decode cX11_fillAll 10 = .ok (.aload_n 0, 1) := by decide +kernel
theorem dX11_fillAll_11 : decode cX11_fillAll 11 = .ok (.getfield 23, 3) := by decide +kernel
theorem dX11_fillAll_14 : decode cX11_fillAll 14 = .ok (.iload_n 2, 1) := by decide +kernel
theorem dX11_fillAll_15 : decode cX11_fillAll 15 = .ok (.laload, 1) := by decide +kernel
theorem dX11_fillAll_16 : decode cX11_fillAll 16 = .ok (.iload_n 1, 1) := by decide +kernel
theorem dX11_fillAll_17 : decode cX11_fillAll 17 = .ok (.i2l, 1) := by decide +kernel
theorem dX11_fillAll_18 : decode cX11_fillAll 18 = .ok (.aload_n 0, 1) := by decide +kernel
theorem dX11_fillAll_19 : decode cX11_fillAll 19 = .ok (.getfield 17, 3) := by decide +kernel
theorem dX11_fillAll_22 : decode cX11_fillAll 22 = .ok (.iload_n 2, 1) := by decide +kernel
theorem dX11_fillAll_23 : decode cX11_fillAll 23 = .ok (.iaload, 1) := by decide +kernel
theorem dX11_fillAll_24 : decode cX11_fillAll 24 = .ok (.i2l, 1) := by decide +kernel
theorem dX11_fillAll_25 : decode cX11_fillAll 25 = .ok (.lmul, 1) := by decide +kernel
theorem dX11_fillAll_26 : decode cX11_fillAll 26 = .ok (.ladd, 1) := by decide +kernel
theorem dX11_fillAll_27 : decode cX11_fillAll 27 = .ok (.invokevirtual 128, 3) := by decide +kernel
theorem dX11_fillAll_30 : decode cX11_fillAll 30 = .ok (.iinc 2 1, 3) := by decide +kernel
theorem dX11_fillAll_33 : decode cX11_fillAll 33 = .ok (.goto (-31), 3) := by decide +kernel
theorem dX11_fillAll_36 : decode cX11_fillAll 36 = .ok (.return_, 1) := by decide +kernel
set_option maxRecDepth 20000 in
theorem ggX11_rootGoesOn_X11_nextEnd : GoodIn wsX11_rootGoesOn wsX11_nextEnd := goodIn_r _ [8, 1, 3, 2, 26, 27, 28, 29, 30, 31, 32, 33, 34, 35, 36, 37, 38, 39, 40, 41, 42, 43, 44, 45, 46, 47, 48, 49, 50, 51, 52, 53, 54, 55, 56, 57, 58, 59] (by decide +kernel) (by decide +kernel)
set_option maxRecDepth 20000 in
theorem gX11_rootGoesOn_X11_nextEnd : GoodIn wsX11_rootGoesOn (wsV RX11 132 RX11 yX11_nextEnd wsX11_nextEnd) := goodIn_app (goodIn_of _ (by decide +kernel)) ggX11_rootGoesOn_X11_nextEnd
set_option maxRecDepth 20000 in
theorem ggX11_rootGoesOn_X11_fillAll : GoodIn wsX11_rootGoesOn wsX11_fillAll := goodIn_r _ [12, 13, 14, 15, 16, 17, 7, 18, 19, 20, 21, 22, 23, 24, 1, 25, 3, 26, 27, 28, 29, 30, 31, 32, 33, 34, 35, 36, 37, 38, 39, 40, 41, 42, 43, 44, 45, 46, 47, 48, 49, 50, 51, 52, 53, 54, 55, 56, 57, 58, 59] (by decide +kernel) (by decide +kernel)
set_option maxRecDepth 20000 in
theorem gX11_rootGoesOn_X11_fillAll : GoodIn wsX11_rootGoesOn (wsV RX11 135 RX11 yX11_fillAll wsX11_fillAll) := goodIn_app (goodIn_of _ (by decide +kernel)) ggX11_rootGoesOn_X11_fillAll
theorem dX11_rootGoesOn_0 : decode cX11_rootGoesOn 0 = .ok (.iload_n 1, 1) := by decide +kernel
theorem dX11_rootGoesOn_1 : decode cX11_rootGoesOn 1 = .ok (.istore_n 3, 1) := by decide +kernel
theorem dX11_rootGoesOn_2 : decode cX11_rootGoesOn 2 = .ok (.iload_n 3, 1) := by decide +kernel
theorem dX11_rootGoesOn_3 : decode cX11_rootGoesOn 3 = .ok (.iload_n 2, 1) := by decide +kernel
theorem dX11_rootGoesOn_4 : decode cX11_rootGoesOn 4 = .ok (.if_icmp .ge 92, 3) := by decide +kernel
theorem dX11_rootGoesOn_7 : decode cX11_rootGoesOn 7 = .ok (.aload_n 0, 1) := by decide +kernel
theorem dX11_rootGoesOn_8 : decode cX11_rootGoesOn 8 = .ok (.iload_n 3, 1) := by decide +kernel
theorem dX11_rootGoesOn_9 : decode cX11_rootGoesOn 9 = .ok (.invokevirtual 132, 3) := by decide +kernel
theorem dX11_rootGoesOn_12 : decode cX11_rootGoesOn 12 = .ok (.istore 4, 2) := by decide +kernel
theorem dX11_rootGoesOn_14 : decode cX11_rootGoesOn 14 = .ok (.iload 4, 2) := by decide +kernel
theorem dX11_rootGoesOn_16 : decode cX11_rootGoesOn 16 = .ok (.ifCond .lt 9, 3) := by decide +kernel
theorem dX11_rootGoesOn_19 : decode cX11_rootGoesOn 19 = .ok (.iload 4, 2) := by decide +kernel
theorem dX11_rootGoesOn_21 : decode cX11_rootGoesOn 21 = .ok (.iload_n 2, 1) := by decide +kernel
theorem dX11_rootGoesOn_22 : decode cX11_rootGoesOn 22 = .ok (.if_icmp .le 15, 3) := by decide +kernel
theorem dX11_rootGoesOn_25 : decode cX11_rootGoesOn 25 = .ok (.aload_n 0, 1) := by decide +kernel
theorem dX11_rootGoesOn_26 : decode cX11_rootGoesOn 26 = .ok (.iload_n 2, 1) := by decide +kernel
theorem dX11_rootGoesOn_27 : decode cX11_rootGoesOn 27 = .ok (.iload_n 3, 1) := by decide +kernel
theorem dX11_rootGoesOn_28 : decode cX11_rootGoesOn 28 = .ok (.isub, 1) := by decide +kernel
theorem dX11_rootGoesOn_29 : decode cX11_rootGoesOn 29 = .ok (.invokevirtual 135, 3) := by decide +kernel
theorem dX11_rootGoesOn_32 : decode cX11_rootGoesOn 32 = .ok (.iload_n 2, 1) := by decide +kernel
theorem dX11_rootGoesOn_33 : decode cX11_rootGoesOn 33 = .ok (.istore_n 3, 1) := by decide +kernel
theorem dX11_rootGoesOn_34 : decode cX11_rootGoesOn 34 = .ok (.goto 59, 3) := by decide +kernel
theorem dX11_rootGoesOn_37 : decode cX11_rootGoesOn 37 = .ok (.aload_n 0, 1) := by decide +kernel
theorem dX11_rootGoesOn_38 : decode cX11_rootGoesOn 38 = .ok (.iload 4, 2) := by decide +kernel
theorem dX11_rootGoesOn_40 : decode cX11_rootGoesOn 40 = .ok (.iconst 1, 1) := by decide +kernel
theorem dX11_rootGoesOn_41 : decode cX11_rootGoesOn 41 = .ok (.isub, 1) := by decide +kernel
theorem dX11_rootGoesOn_42 : decode cX11_rootGoesOn 42 = .ok (.iload_n 3, 1) := by decide +kernel
theorem dX11_rootGoesOn_43 : decode cX11_rootGoesOn 43 = .ok (.isub, 1) := by decide +kernel
theorem dX11_rootGoesOn_44 : decode cX11_rootGoesOn 44 = .ok (.invokevirtual 135, 3) := by decide +kernel
theorem dX11_rootGoesOn_47 : decode cX11_rootGoesOn 47 = .ok (.iload 4, 2) := by decide +kernel
theorem dX11_rootGoesOn_49 : decode cX11_rootGoesOn 49 = .ok (.istore_n 3, 1) := by decide +kernel
theorem dX11_rootGoesOn_50 : decode cX11_rootGoesOn 50 = .ok (.iconst 0, 1) := by decide +kernel
theorem dX11_rootGoesOn_51 : decode cX11_rootGoesOn 51 = .ok (.istore 5, 2) := by decide +kernel
theorem dX11_rootGoesOn_53 : decode cX11_rootGoesOn 53 = .ok (.iload 5, 2) := by decide +kernel
theorem dX11_rootGoesOn_55 : decode cX11_rootGoesOn 55 = .ok (.aload_n 0, 1) := by decide +kernel
theorem dX11_rootGoesOn_56 : decode cX11_rootGoesOn 56 = .ok (.getfield 111, 3) := by decide +kernel
theorem dX11_rootGoesOn_59 : decode cX11_rootGoesOn 59 = .ok (.if_icmp .ge 29, 3) := by decide +kernel
theorem dX11_rootGoesOn_62 : decode cX11_rootGoesOn 62 = .ok (.aload_n 0, 1) := by decide +kernel
theorem dX11_rootGoesOn_63 : decode cX11_rootGoesOn 63 = .ok (.getfield 35, 3) := by decide +kernel
theorem dX11_rootGoesOn_66 : decode cX11_rootGoesOn 66 = .ok (.iload 5, 2) := by decide +kernel
theorem dX11_rootGoesOn_68 : decode cX11_rootGoesOn 68 = .ok (.iaload, 1) := by decide +kernel
theorem dX11_rootGoesOn_69 : decode cX11_rootGoesOn 69 = .ok (.iload 4, 2) := by decide +kernel
theorem dX11_rootGoesOn_71 : decode cX11_rootGoesOn 71 = .ok (.if_icmp .ne 11, 3) := by decide +kernel
theorem dX11_rootGoesOn_74 : decode cX11_rootGoesOn 74 = .ok (.aload_n 0, 1) := by decide +kernel
theorem dX11_rootGoesOn_75 : decode cX11_rootGoesOn 75 = .ok (.getfield 32, 3) := by decide +kernel
theorem dX11_rootGoesOn_78 : decode cX11_rootGoesOn 78 = .ok (.iload 5, 2) := by decide +kernel
theorem dX11_rootGoesOn_80 : decode cX11_rootGoesOn 80 = .ok (.iconst 0, 1) := by decide +kernel
theorem dX11_rootGoesOn_81 : decode cX11_rootGoesOn 81 = .ok (.iastore, 1) := by decide +kernel
theorem dX11_rootGoesOn_82 : decode cX11_rootGoesOn 82 = .ok (.iinc 5 1, 3) := by decide +kernel
theorem dX11_rootGoesOn_85 : decode cX11_rootGoesOn 85 = .ok (.goto (-32), 3) := by decide +kernel
theorem dX11_rootGoesOn_88 : decode cX11_rootGoesOn 88 = .ok (.aload_n 0, 1) := by decide +kernel
theorem dX11_rootGoesOn_89 : decode cX11_rootGoesOn 89 = .ok (.iconst 1, 1) := by decide +kernel
theorem dX11_rootGoesOn_90 : decode cX11_rootGoesOn 90 = .ok (.invokevirtual 135, 3) := by decide +kernel
theorem dX11_rootGoesOn_93 : decode cX11_rootGoesOn 93 = .ok (.goto (-91), 3) := by decide +kernel
theorem dX11_rootGoesOn_96 : decode cX11_rootGoesOn 96 = .ok (.return_, 1) := by decide +kernel
set_option maxRecDepth 20000 in
theorem ggX11_tick_X11_isIn : GoodIn wsX11_tick wsX11_isIn := goodIn_r _ [6] (by decide +kernel) (by decide +kernel)
set_option maxRecDepth 20000 in
theorem gX11_tick_X11_isIn : GoodIn wsX11_tick (va_wsS RX11 118 yX11_isIn wsX11_isIn) := goodIn_app (goodIn_of _ (by decide +kernel)) ggX11_tick_X11_isIn
set_option maxRecDepth 20000 in
theorem ggX11_tick_X11_refused : GoodIn wsX11_tick wsX11_refused := goodIn_r _ [10, 11, 44, 45, 46, 47, 48, 49, 50, 51, 52, 53, 54, 55, 56, 57, 58, 59, 60, 61, 62, 63, 64, 65, 66, 67, 68, 69, 70, 71, 72, 73, 74, 75, 76, 77] (by decide +kernel) (by decide +kernel)
set_option maxRecDepth 20000 in
theorem gX11_tick_X11_refused : GoodIn wsX11_tick (wsV RX11 124 RX11 yX11_refused wsX11_refused) := goodIn_app (goodIn_of _ (by decide +kernel)) ggX11_tick_X11_refused
set_option maxRecDepth 20000 in
theorem ggX11_tick_X11_clockOf : GoodIn wsX11_tick wsX11_clockOf := goodIn_r _ [15, 1, 16, 44, 45, 46, 47, 48, 49, 50, 51, 52, 53, 54, 55, 56, 57, 58, 59, 60, 61, 62, 63, 64, 65, 66, 67, 68, 69, 70, 71, 72, 73, 74, 75, 76, 77] (by decide +kernel) (by decide +kernel)
set_option maxRecDepth 20000 in
theorem gX11_tick_X11_clockOf : GoodIn wsX11_tick (wsV RX11 139 RX11 yX11_clockOf wsX11_clockOf) := goodIn_app (goodIn_of _ (by decide +kernel)) ggX11_tick_X11_clockOf
set_option maxRecDepth 20000 in
theorem ggX11_tick_X11_rootGoesOn : GoodIn wsX11_tick wsX11_rootGoesOn := goodIn_r _ [20, 21, 22, 23, 24, 25, 26, 5, 27, 28, 29, 30, 31, 32, 33, 34, 35, 36, 37, 16, 38, 39, 40, 41, 42, 43, 44, 45, 46, 47, 48, 49, 50, 51, 52, 53, 54, 55, 56, 57, 58, 59, 60, 61, 62, 63, 64, 65, 66, 67, 68, 69, 70, 71, 72, 73, 74, 75, 76, 77] (by decide +kernel) (by decide +kernel)
set_option maxRecDepth 20000 in
theorem gX11_tick_X11_rootGoesOn : GoodIn wsX11_tick (wsV RX11 142 RX11 yX11_rootGoesOn wsX11_rootGoesOn) := goodIn_app (goodIn_of _ (by decide +kernel)) ggX11_tick_X11_rootGoesOn
theorem dX11_tick_0 : decode cX11_tick 0 = .ok (.aload_n 0, 1) := by decide +kernel
theorem dX11_tick_1 : decode cX11_tick 1 = .ok (.iload_n 1, 1) := by decide +kernel
theorem dX11_tick_2 : decode cX11_tick 2 = .ok (.iconst 1, 1) := by decide +kernel
theorem dX11_tick_3 : decode cX11_tick 3 = .ok (.sipush 5000, 3) := by decide +kernel
theorem dX11_tick_6 : decode cX11_tick 6 = .ok (.invokestatic 118, 3) := by decide +kernel
theorem dX11_tick_9 : decode cX11_tick 9 = .ok (.ifCond .eq 7, 3) := by decide +kernel
theorem dX11_tick_12 : decode cX11_tick 12 = .ok (.iconst 0, 1) := by decide +kernel
theorem dX11_tick_13 : decode cX11_tick 13 = .ok (.goto 4, 3) := by decide +kernel
theorem dX11_tick_16 : decode cX11_tick 16 = .ok (.iconst 1, 1) := by decide +kernel
theorem dX11_tick_17 : decode cX11_tick 17 = .ok (.invokevirtual 124, 3) := by decide +kernel
theorem dX11_tick_20 : decode cX11_tick 20 = .ok (.ifCond .eq 4, 3) := by decide +kernel
theorem dX11_tick_23 : decode cX11_tick 23 = .ok (.return_, 1) := by decide +kernel
theorem dX11_tick_24 : decode cX11_tick 24 = .ok (.aload_n 0, 1) := by decide +kernel
theorem dX11_tick_25 : decode cX11_tick 25 = .ok (.bipush 6, 2) := by decide +kernel
theorem dX11_tick_27 : decode cX11_tick 27 = .ok (.invokevirtual 139, 3) := by decide +kernel
theorem dX11_tick_30 : decode cX11_tick 30 = .ok (.istore_n 2, 1) := by decide +kernel
theorem dX11_tick_31 : decode cX11_tick 31 = .ok (.iconst 0, 1) := by decide +kernel
theorem dX11_tick_32 : decode cX11_tick 32 = .ok (.istore_n 3, 1) := by decide +kernel
theorem dX11_tick_33 : decode cX11_tick 33 = .ok (.iload_n 3, 1) := by decide +kernel
theorem dX11_tick_34 : decode cX11_tick 34 = .ok (.bipush 7, 2) := by decide +kernel
theorem dX11_tick_36 : decode cX11_tick 36 = .ok (.if_icmp .ge 32, 3) := by decide +kernel
theorem dX11_tick_39 : decode cX11_tick 39 = .ok (.aload_n 0, 1) := by decide +kernel
theorem dX11_tick_40 : decode cX11_tick 40 = .ok (.getfield 7, 3) := by decide +kernel
theorem dX11_tick_43 : decode cX11_tick 43 = .ok (.iload_n 3, 1) := by decide +kernel
theorem dX11_tick_44 : decode cX11_tick 44 = .ok (.aload_n 0, 1) := by decide +kernel
theorem dX11_tick_45 : decode cX11_tick 45 = .ok (.getfield 7, 3) := by decide +kernel
theorem dX11_tick_48 : decode cX11_tick 48 = .ok (.iload_n 3, 1) := by decide +kernel
theorem dX11_tick_49 : decode cX11_tick 49 = .ok (.laload, 1) := by decide +kernel
theorem dX11_tick_50 : decode cX11_tick 50 = .ok (.iload_n 1, 1) := by decide +kernel
theorem dX11_tick_51 : decode cX11_tick 51 = .ok (.i2l, 1) := by decide +kernel
theorem dX11_tick_52 : decode cX11_tick 52 = .ok (.aload_n 0, 1) := by decide +kernel
theorem dX11_tick_53 : decode cX11_tick 53 = .ok (.getfield 13, 3) := by decide +kernel
theorem dX11_tick_56 : decode cX11_tick 56 = .ok (.iload_n 3, 1) := by decide +kernel
theorem dX11_tick_57 : decode cX11_tick 57 = .ok (.iaload, 1) := by decide +kernel
theorem dX11_tick_58 : decode cX11_tick 58 = .ok (.i2l, 1) := by decide +kernel
theorem dX11_tick_59 : decode cX11_tick 59 = .ok (.lmul, 1) := by decide +kernel
theorem dX11_tick_60 : decode cX11_tick 60 = .ok (.ladd, 1) := by decide +kernel
theorem dX11_tick_61 : decode cX11_tick 61 = .ok (.lastore, 1) := by decide +kernel
theorem dX11_tick_62 : decode cX11_tick 62 = .ok (.iinc 3 1, 3) := by decide +kernel
theorem dX11_tick_65 : decode cX11_tick 65 = .ok (.goto (-32), 3) := by decide +kernel
theorem dX11_tick_68 : decode cX11_tick 68 = .ok (.aload_n 0, 1) := by decide +kernel
theorem dX11_tick_69 : decode cX11_tick 69 = .ok (.iload_n 2, 1) := by decide +kernel
theorem dX11_tick_70 : decode cX11_tick 70 = .ok (.aload_n 0, 1) := by decide +kernel
theorem dX11_tick_71 : decode cX11_tick 71 = .ok (.bipush 6, 2) := by decide +kernel
theorem dX11_tick_73 : decode cX11_tick 73 = .ok (.invokevirtual 139, 3) := by decide +kernel
theorem dX11_tick_76 : decode cX11_tick 76 = .ok (.invokevirtual 142, 3) := by decide +kernel
theorem dX11_tick_79 : decode cX11_tick 79 = .ok (.return_, 1) := by decide +kernel
theorem dX11_liveTime_0 : decode cX11_liveTime 0 = .ok (.sipush 998, 3) := by decide +kernel
theorem dX11_liveTime_3 : decode cX11_liveTime 3 = .ok (.iload_n 0, 1) := by decide +kernel
theorem dX11_liveTime_4 : decode cX11_liveTime 4 = .ok (.imul, 1) := by decide +kernel
theorem dX11_liveTime_5 : decode cX11_liveTime 5 = .ok (.sipush 1000, 3) := by decide +kernel
theorem dX11_liveTime_8 : decode cX11_liveTime 8 = .ok (.idiv, 1) := by decide +kernel
theorem dX11_liveTime_9 : decode cX11_liveTime 9 = .ok (.ireturn, 1) := by decide +kernel
set_option maxRecDepth 20000 in
theorem ggX11_age_X11_clockOf : GoodIn wsX11_age wsX11_clockOf := goodIn_r _ [6, 7, 8, 9, 10, 11, 12, 13, 14, 15, 16, 17, 18, 19, 20, 21, 22, 23, 24, 25, 26, 27, 28, 29, 30, 31, 32, 33, 34, 35, 36, 37, 38, 39, 40, 41, 42] (by decide +kernel) (by decide +kernel)
set_option maxRecDepth 20000 in
theorem gX11_age_X11_clockOf : GoodIn wsX11_age (wsV RX11 139 RX11 yX11_clockOf wsX11_clockOf) := goodIn_app (goodIn_of _ (by decide +kernel)) ggX11_age_X11_clockOf
theorem dX11_age_0 : decode cX11_age 0 = .ok (.aload_n 0, 1) := by decide +kernel
theorem dX11_age_1 : decode cX11_age 1 = .ok (.iload_n 1, 1) := by decide +kernel
theorem dX11_age_2 : decode cX11_age 2 = .ok (.invokevirtual 139, 3) := by decide +kernel
theorem dX11_age_5 : decode cX11_age 5 = .ok (.aload_n 0, 1) := by decide +kernel
theorem dX11_age_6 : decode cX11_age 6 = .ok (.getfield 94, 3) := by decide +kernel
theorem dX11_age_9 : decode cX11_age 9 = .ok (.iload_n 2, 1) := by decide +kernel
theorem dX11_age_10 : decode cX11_age 10 = .ok (.iaload, 1) := by decide +kernel
theorem dX11_age_11 : decode cX11_age 11 = .ok (.isub, 1) := by decide +kernel
theorem dX11_age_12 : decode cX11_age 12 = .ok (.ireturn, 1) := by decide +kernel
theorem dX11_isHold_0 : decode cX11_isHold 0 = .ok (.aload_n 0, 1) := by decide +kernel
theorem dX11_isHold_1 : decode cX11_isHold 1 = .ok (.getfield 88, 3) := by decide +kernel
theorem dX11_isHold_4 : decode cX11_isHold 4 = .ok (.iload_n 3, 1) := by decide +kernel
theorem dX11_isHold_5 : decode cX11_isHold 5 = .ok (.iaload, 1) := by decide +kernel
theorem dX11_isHold_6 : decode cX11_isHold 6 = .ok (.iload_n 1, 1) := by decide +kernel
theorem dX11_isHold_7 : decode cX11_isHold 7 = .ok (.iconst 1, 1) := by decide +kernel
theorem dX11_isHold_8 : decode cX11_isHold 8 = .ok (.iadd, 1) := by decide +kernel
theorem dX11_isHold_9 : decode cX11_isHold 9 = .ok (.if_icmp .ne 17, 3) := by decide +kernel
theorem dX11_isHold_12 : decode cX11_isHold 12 = .ok (.aload_n 0, 1) := by decide +kernel
theorem dX11_isHold_13 : decode cX11_isHold 13 = .ok (.getfield 29, 3) := by decide +kernel
theorem dX11_isHold_16 : decode cX11_isHold 16 = .ok (.iload_n 3, 1) := by decide +kernel
theorem dX11_isHold_17 : decode cX11_isHold 17 = .ok (.iaload, 1) := by decide +kernel
theorem dX11_isHold_18 : decode cX11_isHold 18 = .ok (.iload_n 2, 1) := by decide +kernel
theorem dX11_isHold_19 : decode cX11_isHold 19 = .ok (.if_icmp .ne 7, 3) := by decide +kernel
theorem dX11_isHold_22 : decode cX11_isHold 22 = .ok (.iconst 1, 1) := by decide +kernel
theorem dX11_isHold_23 : decode cX11_isHold 23 = .ok (.goto 4, 3) := by decide +kernel
theorem dX11_isHold_26 : decode cX11_isHold 26 = .ok (.iconst 0, 1) := by decide +kernel
theorem dX11_isHold_27 : decode cX11_isHold 27 = .ok (.ireturn, 1) := by decide +kernel
set_option maxRecDepth 20000 in
theorem ggX11_isLive_X11_age : GoodIn wsX11_isLive wsX11_age := goodIn_r _ [6, 7, 8, 9, 10, 5, 11, 12, 13, 17, 18, 19, 20, 21, 22, 23, 24, 25, 26, 27, 28, 29, 30, 31, 32, 33, 34, 35, 36, 37, 38, 39, 40, 41, 42, 43, 44, 45, 46, 47, 48, 49, 50] (by decide +kernel) (by decide +kernel)
set_option maxRecDepth 20000 in
theorem gX11_isLive_X11_age : GoodIn wsX11_isLive (wsV RX11 146 RX11 yX11_age wsX11_age) := goodIn_app (goodIn_of _ (by decide +kernel)) ggX11_isLive_X11_age
set_option maxRecDepth 20000 in
theorem ggX11_isLive_X11_liveTime : GoodIn wsX11_isLive wsX11_liveTime := goodIn_r _ [16] (by decide +kernel) (by decide +kernel)
set_option maxRecDepth 20000 in
theorem gX11_isLive_X11_liveTime : GoodIn wsX11_isLive (va_wsS RX11 150 yX11_liveTime wsX11_liveTime) := goodIn_app (goodIn_of _ (by decide +kernel)) ggX11_isLive_X11_liveTime
theorem dX11_isLive_0 : decode cX11_isLive 0 = .ok (.aload_n 0, 1) := by decide +kernel
theorem dX11_isLive_1 : decode cX11_isLive 1 = .ok (.iload_n 1, 1) := by decide +kernel
theorem dX11_isLive_2 : decode cX11_isLive 2 = .ok (.iload_n 2, 1) := by decide +kernel
theorem dX11_isLive_3 : decode cX11_isLive 3 = .ok (.invokevirtual 146, 3) := by decide +kernel
theorem dX11_isLive_6 : decode cX11_isLive 6 = .ok (.aload_n 0, 1) := by decide +kernel
theorem dX11_isLive_7 : decode cX11_isLive 7 = .ok (.getfield 97, 3) := by decide +kernel
theorem dX11_isLive_10 : decode cX11_isLive 10 = .ok (.iload_n 2, 1) := by decide +kernel
theorem dX11_isLive_11 : decode cX11_isLive 11 = .ok (.iaload, 1) := by decide +kernel
theorem dX11_isLive_12 : decode cX11_isLive 12 = .ok (.invokestatic 150, 3) := by decide +kernel
theorem dX11_isLive_15 : decode cX11_isLive 15 = .ok (.if_icmp .ge 7, 3) := by decide +kernel
theorem dX11_isLive_18 : decode cX11_isLive 18 = .ok (.iconst 1, 1) := by decide +kernel
theorem dX11_isLive_19 : decode cX11_isLive 19 = .ok (.goto 4, 3) := by decide +kernel
theorem dX11_isLive_22 : decode cX11_isLive 22 = .ok (.iconst 0, 1) := by decide +kernel
theorem dX11_isLive_23 : decode cX11_isLive 23 = .ok (.ireturn, 1) := by decide +kernel
set_option maxRecDepth 20000 in
theorem ggX11_live_X11_isHold : GoodIn wsX11_live wsX11_isHold := goodIn_r _ [7, 8, 9, 29, 30, 31, 32, 33, 34, 35, 36, 37, 38, 39, 40, 41, 42, 43, 44, 45, 46, 47, 48, 49, 50, 51, 52, 53, 54, 55, 56, 57, 58, 59, 60, 61, 62] (by decide +kernel) (by decide +kernel)
set_option maxRecDepth 20000 in
theorem gX11_live_X11_isHold : GoodIn wsX11_live (wsV RX11 153 RX11 yX11_isHold wsX11_isHold) := goodIn_app (goodIn_of _ (by decide +kernel)) ggX11_live_X11_isHold
set_option maxRecDepth 20000 in
theorem ggX11_live_X11_isLive : GoodIn wsX11_live wsX11_isLive := goodIn_r _ [13, 14, 15, 16, 17, 6, 18, 19, 20, 21, 22, 23, 24, 25, 26, 27, 28, 29, 30, 31, 32, 33, 34, 35, 36, 37, 38, 39, 40, 41, 42, 43, 44, 45, 46, 47, 48, 49, 50, 51, 52, 53, 54, 55, 56, 57, 58, 59, 60, 61, 62] (by decide +kernel) (by decide +kernel)
set_option maxRecDepth 20000 in
theorem gX11_live_X11_isLive : GoodIn wsX11_live (wsV RX11 156 RX11 yX11_isLive wsX11_isLive) := goodIn_app (goodIn_of _ (by decide +kernel)) ggX11_live_X11_isLive
theorem dX11_live_0 : decode cX11_live 0 = .ok (.iconst 0, 1) := by decide +kernel
theorem dX11_live_1 : decode cX11_live 1 = .ok (.istore_n 3, 1) := by decide +kernel
theorem dX11_live_2 : decode cX11_live 2 = .ok (.iconst 0, 1) := by decide +kernel
theorem dX11_live_3 : decode cX11_live 3 = .ok (.istore 4, 2) := by decide +kernel
theorem dX11_live_5 : decode cX11_live 5 = .ok (.iload 4, 2) := by decide +kernel
theorem dX11_live_7 : decode cX11_live 7 = .ok (.aload_n 0, 1) := by decide +kernel
theorem dX11_live_8 : decode cX11_live 8 = .ok (.getfield 111, 3) := by decide +kernel
theorem dX11_live_11 : decode cX11_live 11 = .ok (.if_icmp .ge 44, 3) := by decide +kernel
theorem dX11_live_14 : decode cX11_live 14 = .ok (.aload_n 0, 1) := by decide +kernel
theorem dX11_live_15 : decode cX11_live 15 = .ok (.iload_n 1, 1) := by decide +kernel
theorem dX11_live_16 : decode cX11_live 16 = .ok (.iload_n 2, 1) := by decide +kernel
theorem dX11_live_17 : decode cX11_live 17 = .ok (.iload 4, 2) := by decide +kernel
theorem dX11_live_19 : decode cX11_live 19 = .ok (.invokevirtual 153, 3) := by decide +kernel
theorem dX11_live_22 : decode cX11_live 22 = .ok (.ifCond .eq 25, 3) := by decide +kernel
theorem dX11_live_25 : decode cX11_live 25 = .ok (.aload_n 0, 1) := by decide +kernel
theorem dX11_live_26 : decode cX11_live 26 = .ok (.iload_n 1, 1) := by decide +kernel
theorem dX11_live_27 : decode cX11_live 27 = .ok (.iload 4, 2) := by decide +kernel
theorem dX11_live_29 : decode cX11_live 29 = .ok (.invokevirtual 156, 3) := by decide +kernel
theorem dX11_live_32 : decode cX11_live 32 = .ok (.ifCond .eq 15, 3) := by decide +kernel
theorem dX11_live_35 : decode cX11_live 35 = .ok (.iload_n 3, 1) := by decide +kernel
theorem dX11_live_36 : decode cX11_live 36 = .ok (.aload_n 0, 1) := by decide +kernel
theorem dX11_live_37 : decode cX11_live 37 = .ok (.getfield 91, 3) := by decide +kernel
theorem dX11_live_40 : decode cX11_live 40 = .ok (.iload 4, 2) := by decide +kernel
theorem dX11_live_42 : decode cX11_live 42 = .ok (.iaload, 1) := by decide +kernel
theorem dX11_live_43 : decode cX11_live 43 = .ok (.iadd, 1) := by decide +kernel
theorem dX11_live_44 : decode cX11_live 44 = .ok (.goto 4, 3) := by decide +kernel
theorem dX11_live_47 : decode cX11_live 47 = .ok (.iload_n 3, 1) := by decide +kernel
theorem dX11_live_48 : decode cX11_live 48 = .ok (.istore_n 3, 1) := by decide +kernel
theorem dX11_live_49 : decode cX11_live 49 = .ok (.iinc 4 1, 3) := by decide +kernel
theorem dX11_live_52 : decode cX11_live 52 = .ok (.goto (-47), 3) := by decide +kernel
theorem dX11_live_55 : decode cX11_live 55 = .ok (.iload_n 3, 1) := by decide +kernel
theorem dX11_live_56 : decode cX11_live 56 = .ok (.ireturn, 1) := by decide +kernel
set_option maxRecDepth 20000 in
theorem ggX11_isPlace_X11_isIn : GoodIn wsX11_isPlace wsX11_isIn := goodIn_r _ [4] (by decide +kernel) (by decide +kernel)
set_option maxRecDepth 20000 in
theorem gX11_isPlace_X11_isIn : GoodIn wsX11_isPlace (va_wsS RX11 118 yX11_isIn wsX11_isIn) := goodIn_app (goodIn_of _ (by decide +kernel)) ggX11_isPlace_X11_isIn
theorem dX11_isPlace_0 : decode cX11_isPlace 0 = .ok (.iload_n 0, 1) := by decide +kernel
theorem dX11_isPlace_1 : decode cX11_isPlace 1 = .ok (.iconst 0, 1) := by decide +kernel
theorem dX11_isPlace_2 : decode cX11_isPlace 2 = .ok (.iconst 5, 1) := by decide +kernel
theorem dX11_isPlace_3 : decode cX11_isPlace 3 = .ok (.invokestatic 118, 3) := by decide +kernel
theorem dX11_isPlace_6 : decode cX11_isPlace 6 = .ok (.ifCond .eq 17, 3) := by decide +kernel
theorem dX11_isPlace_9 : decode cX11_isPlace 9 = .ok (.iload_n 1, 1) := by decide +kernel
theorem dX11_isPlace_10 : decode cX11_isPlace 10 = .ok (.iconst 0, 1) := by decide +kernel
theorem dX11_isPlace_11 : decode cX11_isPlace 11 = .ok (.bipush 7, 2) := by decide +kernel
theorem dX11_isPlace_13 : decode cX11_isPlace 13 = .ok (.invokestatic 118, 3) := by decide +kernel
theorem dX11_isPlace_16 : decode cX11_isPlace 16 = .ok (.ifCond .eq 7, 3) := by decide +kernel
theorem dX11_isPlace_19 : decode cX11_isPlace 19 = .ok (.iconst 1, 1) := by decide +kernel
theorem dX11_isPlace_20 : decode cX11_isPlace 20 = .ok (.goto 4, 3) := by decide +kernel
theorem dX11_isPlace_23 : decode cX11_isPlace 23 = .ok (.iconst 0, 1) := by decide +kernel
theorem dX11_isPlace_24 : decode cX11_isPlace 24 = .ok (.ireturn, 1) := by decide +kernel
set_option maxRecDepth 20000 in
theorem ggX11_take_X11_isPlace : GoodIn wsX11_take wsX11_isPlace := goodIn_r _ [11, 12, 13, 10, 14] (by decide +kernel) (by decide +kernel)
set_option maxRecDepth 20000 in
theorem gX11_take_X11_isPlace : GoodIn wsX11_take (va_wsS RX11 160 yX11_isPlace wsX11_isPlace) := goodIn_app (goodIn_of _ (by decide +kernel)) ggX11_take_X11_isPlace
set_option maxRecDepth 20000 in
theorem ggX11_take_X11_isIn : GoodIn wsX11_take wsX11_isIn := goodIn_r _ [14] (by decide +kernel) (by decide +kernel)
set_option maxRecDepth 20000 in
theorem gX11_take_X11_isIn : GoodIn wsX11_take (va_wsS RX11 118 yX11_isIn wsX11_isIn) := goodIn_app (goodIn_of _ (by decide +kernel)) ggX11_take_X11_isIn
set_option maxRecDepth 20000 in
theorem ggX11_take_X11_refused : GoodIn wsX11_take wsX11_refused := goodIn_r _ [18, 19, 47, 48, 49, 50, 51, 52, 53, 54, 55, 56, 57, 58, 59, 60, 61, 62, 63, 64, 65, 66, 67, 68, 69, 70, 71, 72, 73, 74, 75, 76, 77, 78, 79, 80] (by decide +kernel) (by decide +kernel)
set_option maxRecDepth 20000 in
theorem gX11_take_X11_refused : GoodIn wsX11_take (wsV RX11 124 RX11 yX11_refused wsX11_refused) := goodIn_app (goodIn_of _ (by decide +kernel)) ggX11_take_X11_refused
set_option maxRecDepth 20000 in
theorem ggX11_take_X11_live : GoodIn wsX11_take wsX11_live := goodIn_r _ [23, 3, 5, 24, 25, 26, 10, 27, 6, 28, 29, 30, 31, 32, 4, 33, 34, 35, 36, 37, 38, 39, 40, 41, 42, 43, 44, 45, 46, 47, 48, 49, 50, 51, 52, 53, 54, 55, 56, 57, 58, 59, 60, 61, 62, 63, 64, 65, 66, 67, 68, 69, 70, 71, 72, 73, 74, 75, 76, 77, 78, 79, 80] (by decide +kernel) (by decide +kernel)
set_option maxRecDepth 20000 in
theorem gX11_take_X11_live : GoodIn wsX11_take (wsV RX11 163 RX11 yX11_live wsX11_live) := goodIn_app (goodIn_of _ (by decide +kernel)) ggX11_take_X11_live
set_option maxRecDepth 20000 in
theorem ggX11_take_X11_isHold : GoodIn wsX11_take wsX11_isHold := goodIn_r _ [27, 6, 28, 47, 48, 49, 50, 51, 52, 53, 54, 55, 56, 57, 58, 59, 60, 61, 62, 63, 64, 65, 66, 67, 68, 69, 70, 71, 72, 73, 74, 75, 76, 77, 78, 79, 80] (by decide +kernel) (by decide +kernel)
set_option maxRecDepth 20000 in
theorem gX11_take_X11_isHold : GoodIn wsX11_take (wsV RX11 153 RX11 yX11_isHold wsX11_isHold) := goodIn_app (goodIn_of _ (by decide +kernel)) ggX11_take_X11_isHold
set_option maxRecDepth 20000 in
theorem ggX11_take_X11_isLive : GoodIn wsX11_take wsX11_isLive := goodIn_r _ [32, 4, 33, 34, 35, 10, 36, 37, 38, 39, 40, 41, 42, 43, 44, 45, 46, 47, 48, 49, 50, 51, 52, 53, 54, 55, 56, 57, 58, 59, 60, 61, 62, 63, 64, 65, 66, 67, 68, 69, 70, 71, 72, 73, 74, 75, 76, 77, 78, 79, 80] (by decide +kernel) (by decide +kernel)
set_option maxRecDepth 20000 in
theorem gX11_take_X11_isLive : GoodIn wsX11_take (wsV RX11 156 RX11 yX11_isLive wsX11_isLive) := goodIn_app (goodIn_of _ (by decide +kernel)) ggX11_take_X11_isLive
set_option maxRecDepth 20000 in
theorem ggX11_take_X11_liveTime : GoodIn wsX11_take wsX11_liveTime := goodIn_r _ [46] (by decide +kernel) (by decide +kernel)
set_option maxRecDepth 20000 in
theorem gX11_take_X11_liveTime : GoodIn wsX11_take (va_wsS RX11 150 yX11_liveTime wsX11_liveTime) := goodIn_app (goodIn_of _ (by decide +kernel)) ggX11_take_X11_liveTime
set_option maxRecDepth 20000 in
theorem ggX11_take_X11_age : GoodIn wsX11_take wsX11_age := goodIn_r _ [36, 37, 38, 39, 40, 10, 41, 42, 43, 47, 48, 49, 50, 51, 52, 53, 54, 55, 56, 57, 58, 59, 60, 61, 62, 63, 64, 65, 66, 67, 68, 69, 70, 71, 72, 73, 74, 75, 76, 77, 78, 79, 80] (by decide +kernel) (by decide +kernel)
set_option maxRecDepth 20000 in
theorem gX11_take_X11_age : GoodIn wsX11_take (wsV RX11 146 RX11 yX11_age wsX11_age) := goodIn_app (goodIn_of _ (by decide +kernel)) ggX11_take_X11_age
theorem dX11_take_0 : decode cX11_take 0 = .ok (.aload_n 0, 1) := by decide +kernel
theorem dX11_take_1 : decode cX11_take 1 = .ok (.iload_n 1, 1) := by decide +kernel
theorem dX11_take_2 : decode cX11_take 2 = .ok (.iload_n 2, 1) := by decide +kernel
theorem dX11_take_3 : decode cX11_take 3 = .ok (.invokestatic 160, 3) := by decide +kernel
theorem dX11_take_6 : decode cX11_take 6 = .ok (.ifCond .eq 18, 3) := by decide +kernel
theorem dX11_take_9 : decode cX11_take 9 = .ok (.iload_n 3, 1) := by decide +kernel
theorem dX11_take_10 : decode cX11_take 10 = .ok (.iconst 1, 1) := by decide +kernel
theorem dX11_take_11 : decode cX11_take 11 = .ok (.sipush 10000, 3) := by decide +kernel
theorem dX11_take_14 : decode cX11_take 14 = .ok (.invokestatic 118, 3) := by decide +kernel
theorem dX11_take_17 : decode cX11_take 17 = .ok (.ifCond .eq 7, 3) := by decide +kernel
theorem dX11_take_20 : decode cX11_take 20 = .ok (.iconst 0, 1) := by decide +kernel
theorem dX11_take_21 : decode cX11_take 21 = .ok (.goto 4, 3) := by decide +kernel
theorem dX11_take_24 : decode cX11_take 24 = .ok (.iconst 1, 1) := by decide +kernel
theorem dX11_take_25 : decode cX11_take 25 = .ok (.invokevirtual 124, 3) := by decide +kernel
theorem dX11_take_28 : decode cX11_take 28 = .ok (.ifCond .eq 5, 3) := by decide +kernel
end
section
theorem dX11_take_31 : decode cX11_take 31 = .ok (.iconst 0, 1) := by decide +kernel
theorem dX11_take_32 : decode cX11_take 32 = .ok (.ireturn, 1) := by decide +kernel
theorem dX11_take_33 : decode cX11_take 33 = .ok (.bipush 8, 2) := by decide +kernel
theorem dX11_take_35 : decode cX11_take 35 = .ok (.iload_n 1, 1) := by decide +kernel
theorem dX11_take_36 : decode cX11_take 36 = .ok (.imul, 1) := by decide +kernel
theorem dX11_take_37 : decode cX11_take 37 = .ok (.iload_n 2, 1) := by decide +kernel
theorem dX11_take_38 : decode cX11_take 38 = .ok (.iadd, 1) := by decide +kernel
theorem dX11_take_39 : decode cX11_take 39 = .ok (.istore 4, 2) := by decide +kernel
theorem dX11_take_41 : decode cX11_take 41 = .ok (.aload_n 0, 1) := by decide +kernel
theorem dX11_take_42 : decode cX11_take 42 = .ok (.getfield 73, 3) := by decide +kernel
theorem dX11_take_45 : decode cX11_take 45 = .ok (.iload 4, 2) := by decide +kernel
theorem dX11_take_47 : decode cX11_take 47 = .ok (.aload_n 0, 1) := by decide +kernel
theorem dX11_take_48 : decode cX11_take 48 = .ok (.getfield 73, 3) := by decide +kernel
theorem dX11_take_51 : decode cX11_take 51 = .ok (.iload 4, 2) := by decide +kernel
theorem dX11_take_53 : decode cX11_take 53 = .ok (.iaload, 1) := by decide +kernel
theorem dX11_take_54 : decode cX11_take 54 = .ok (.iload_n 3, 1) := by decide +kernel
theorem dX11_take_55 : decode cX11_take 55 = .ok (.iadd, 1) := by decide +kernel
theorem dX11_take_56 : decode cX11_take 56 = .ok (.iastore, 1) := by decide +kernel
theorem dX11_take_57 : decode cX11_take 57 = .ok (.aload_n 0, 1) := by decide +kernel
theorem dX11_take_58 : decode cX11_take 58 = .ok (.iload_n 1, 1) := by decide +kernel
theorem dX11_take_59 : decode cX11_take 59 = .ok (.iload_n 2, 1) := by decide +kernel
theorem dX11_take_60 : decode cX11_take 60 = .ok (.invokevirtual 163, 3) := by decide +kernel
theorem dX11_take_63 : decode cX11_take 63 = .ok (.iload_n 3, 1) := by decide +kernel
theorem dX11_take_64 : decode cX11_take 64 = .ok (.if_icmp .ge 16, 3) := by decide +kernel
theorem dX11_take_67 : decode cX11_take 67 = .ok (.aload_n 0, 1) := by decide +kernel
theorem dX11_take_68 : decode cX11_take 68 = .ok (.getfield 85, 3) := by decide +kernel
theorem dX11_take_71 : decode cX11_take 71 = .ok (.iload 4, 2) := by decide +kernel
theorem dX11_take_73 : decode cX11_take 73 = .ok (.dup2, 1) := by decide +kernel
theorem dX11_take_74 : decode cX11_take 74 = .ok (.iaload, 1) := by decide +kernel
theorem dX11_take_75 : decode cX11_take 75 = .ok (.iconst 1, 1) := by decide +kernel
theorem dX11_take_76 : decode cX11_take 76 = .ok (.iadd, 1) := by decide +kernel
theorem dX11_take_77 : decode cX11_take 77 = .ok (.iastore, 1) := by decide +kernel
theorem dX11_take_78 : decode cX11_take 78 = .ok (.iconst 0, 1) := by decide +kernel
theorem dX11_take_79 : decode cX11_take 79 = .ok (.ireturn, 1) := by decide +kernel
theorem dX11_take_80 : decode cX11_take 80 = .ok (.iload_n 3, 1) := by decide +kernel
theorem dX11_take_81 : decode cX11_take 81 = .ok (.istore 5, 2) := by decide +kernel
theorem dX11_take_83 : decode cX11_take 83 = .ok (.iload 5, 2) := by decide +kernel
theorem dX11_take_85 : decode cX11_take 85 = .ok (.ifCond .le 159, 3) := by decide +kernel
theorem dX11_take_88 : decode cX11_take 88 = .ok (.iconst (-1), 1) := by decide +kernel
theorem dX11_take_89 : decode cX11_take 89 = .ok (.istore 6, 2) := by decide +kernel
theorem dX11_take_91 : decode cX11_take 91 = .ok (.iconst 0, 1) := by decide +kernel
theorem dX11_take_92 : decode cX11_take 92 = .ok (.istore 7, 2) := by decide +kernel
theorem dX11_take_94 : decode cX11_take 94 = .ok (.iconst 0, 1) := by decide +kernel
theorem dX11_take_95 : decode cX11_take 95 = .ok (.istore 8, 2) := by decide +kernel
theorem dX11_take_97 : decode cX11_take 97 = .ok (.iload 8, 2) := by decide +kernel
theorem dX11_take_99 : decode cX11_take 99 = .ok (.aload_n 0, 1) := by decide +kernel
theorem dX11_take_100 : decode cX11_take 100 = .ok (.getfield 111, 3) := by decide +kernel
theorem dX11_take_103 : decode cX11_take 103 = .ok (.if_icmp .ge 70, 3) := by decide +kernel
theorem dX11_take_106 : decode cX11_take 106 = .ok (.aload_n 0, 1) := by decide +kernel
theorem dX11_take_107 : decode cX11_take 107 = .ok (.iload_n 1, 1) := by decide +kernel
theorem dX11_take_108 : decode cX11_take 108 = .ok (.iload_n 2, 1) := by decide +kernel
theorem dX11_take_109 : decode cX11_take 109 = .ok (.iload 8, 2) := by decide +kernel
theorem dX11_take_111 : decode cX11_take 111 = .ok (.invokevirtual 153, 3) := by decide +kernel
theorem dX11_take_114 : decode cX11_take 114 = .ok (.ifCond .eq 53, 3) := by decide +kernel
theorem dX11_take_117 : decode cX11_take 117 = .ok (.aload_n 0, 1) := by decide +kernel
theorem dX11_take_118 : decode cX11_take 118 = .ok (.iload_n 1, 1) := by decide +kernel
theorem dX11_take_119 : decode cX11_take 119 = .ok (.iload 8, 2) := by decide +kernel
theorem dX11_take_121 : decode cX11_take 121 = .ok (.invokevirtual 156, 3) := by decide +kernel
theorem dX11_take_124 : decode cX11_take 124 = .ok (.ifCond .eq 43, 3) := by decide +kernel
theorem dX11_take_127 : decode cX11_take 127 = .ok (.aload_n 0, 1) := by decide +kernel
theorem dX11_take_128 : decode cX11_take 128 = .ok (.getfield 97, 3) := by decide +kernel
theorem dX11_take_131 : decode cX11_take 131 = .ok (.iload 8, 2) := by decide +kernel
theorem dX11_take_133 : decode cX11_take 133 = .ok (.iaload, 1) := by decide +kernel
theorem dX11_take_134 : decode cX11_take 134 = .ok (.invokestatic 150, 3) := by decide +kernel
theorem dX11_take_137 : decode cX11_take 137 = .ok (.aload_n 0, 1) := by decide +kernel
theorem dX11_take_138 : decode cX11_take 138 = .ok (.iload_n 1, 1) := by decide +kernel
theorem dX11_take_139 : decode cX11_take 139 = .ok (.iload 8, 2) := by decide +kernel
theorem dX11_take_141 : decode cX11_take 141 = .ok (.invokevirtual 146, 3) := by decide +kernel
theorem dX11_take_144 : decode cX11_take 144 = .ok (.isub, 1) := by decide +kernel
theorem dX11_take_145 : decode cX11_take 145 = .ok (.istore 9, 2) := by decide +kernel
theorem dX11_take_147 : decode cX11_take 147 = .ok (.iload 6, 2) := by decide +kernel
theorem dX11_take_149 : decode cX11_take 149 = .ok (.ifCond .lt 10, 3) := by decide +kernel
theorem dX11_take_152 : decode cX11_take 152 = .ok (.iload 9, 2) := by decide +kernel
theorem dX11_take_154 : decode cX11_take 154 = .ok (.iload 7, 2) := by decide +kernel
theorem dX11_take_156 : decode cX11_take 156 = .ok (.if_icmp .ge 11, 3) := by decide +kernel
theorem dX11_take_159 : decode cX11_take 159 = .ok (.iload 8, 2) := by decide +kernel
theorem dX11_take_161 : decode cX11_take 161 = .ok (.istore 6, 2) := by decide +kernel
theorem dX11_take_163 : decode cX11_take 163 = .ok (.iload 9, 2) := by decide +kernel
theorem dX11_take_165 : decode cX11_take 165 = .ok (.istore 7, 2) := by decide +kernel
theorem dX11_take_167 : decode cX11_take 167 = .ok (.iinc 8 1, 3) := by decide +kernel
theorem dX11_take_170 : decode cX11_take 170 = .ok (.goto (-73), 3) := by decide +kernel
theorem dX11_take_173 : decode cX11_take 173 = .ok (.aload_n 0, 1) := by decide +kernel
theorem dX11_take_174 : decode cX11_take 174 = .ok (.getfield 91, 3) := by decide +kernel
theorem dX11_take_177 : decode cX11_take 177 = .ok (.iload 6, 2) := by decide +kernel
theorem dX11_take_179 : decode cX11_take 179 = .ok (.iaload, 1) := by decide +kernel
theorem dX11_take_180 : decode cX11_take 180 = .ok (.iload 5, 2) := by decide +kernel
theorem dX11_take_182 : decode cX11_take 182 = .ok (.if_icmp .ge 13, 3) := by decide +kernel
theorem dX11_take_185 : decode cX11_take 185 = .ok (.aload_n 0, 1) := by decide +kernel
theorem dX11_take_186 : decode cX11_take 186 = .ok (.getfield 91, 3) := by decide +kernel
theorem dX11_take_189 : decode cX11_take 189 = .ok (.iload 6, 2) := by decide +kernel
theorem dX11_take_191 : decode cX11_take 191 = .ok (.iaload, 1) := by decide +kernel
theorem dX11_take_192 : decode cX11_take 192 = .ok (.goto 5, 3) := by decide +kernel
theorem dX11_take_195 : decode cX11_take 195 = .ok (.iload 5, 2) := by decide +kernel
theorem dX11_take_197 : decode cX11_take 197 = .ok (.istore 8, 2) := by decide +kernel
theorem dX11_take_199 : decode cX11_take 199 = .ok (.aload_n 0, 1) := by decide +kernel
theorem dX11_take_200 : decode cX11_take 200 = .ok (.getfield 91, 3) := by decide +kernel
theorem dX11_take_203 : decode cX11_take 203 = .ok (.iload 6, 2) := by decide +kernel
theorem dX11_take_205 : decode cX11_take 205 = .ok (.aload_n 0, 1) := by decide +kernel
theorem dX11_take_206 : decode cX11_take 206 = .ok (.getfield 91, 3) := by decide +kernel
theorem dX11_take_209 : decode cX11_take 209 = .ok (.iload 6, 2) := by decide +kernel
theorem dX11_take_211 : decode cX11_take 211 = .ok (.iaload, 1) := by decide +kernel
theorem dX11_take_212 : decode cX11_take 212 = .ok (.iload 8, 2) := by decide +kernel
theorem dX11_take_214 : decode cX11_take 214 = .ok (.isub, 1) := by decide +kernel
theorem dX11_take_215 : decode cX11_take 215 = .ok (.iastore, 1) := by decide +kernel
theorem dX11_take_216 : decode cX11_take 216 = .ok (.iload 5, 2) := by decide +kernel
theorem dX11_take_218 : decode cX11_take 218 = .ok (.iload 8, 2) := by decide +kernel
theorem dX11_take_220 : decode cX11_take 220 = .ok (.isub, 1) := by decide +kernel
theorem dX11_take_221 : decode cX11_take 221 = .ok (.istore 5, 2) := by decide +kernel
theorem dX11_take_223 : decode cX11_take 223 = .ok (.aload_n 0, 1) := by decide +kernel
theorem dX11_take_224 : decode cX11_take 224 = .ok (.getfield 91, 3) := by decide +kernel
theorem dX11_take_227 : decode cX11_take 227 = .ok (.iload 6, 2) := by decide +kernel
theorem dX11_take_229 : decode cX11_take 229 = .ok (.iaload, 1) := by decide +kernel
theorem dX11_take_230 : decode cX11_take 230 = .ok (.ifCond .ne 11, 3) := by decide +kernel
theorem dX11_take_233 : decode cX11_take 233 = .ok (.aload_n 0, 1) := by decide +kernel
theorem dX11_take_234 : decode cX11_take 234 = .ok (.getfield 88, 3) := by decide +kernel
theorem dX11_take_237 : decode cX11_take 237 = .ok (.iload 6, 2) := by decide +kernel
theorem dX11_take_239 : decode cX11_take 239 = .ok (.iconst 0, 1) := by decide +kernel
theorem dX11_take_240 : decode cX11_take 240 = .ok (.iastore, 1) := by decide +kernel
theorem dX11_take_241 : decode cX11_take 241 = .ok (.goto (-158), 3) := by decide +kernel
theorem dX11_take_244 : decode cX11_take 244 = .ok (.aload_n 0, 1) := by decide +kernel
theorem dX11_take_245 : decode cX11_take 245 = .ok (.getfield 85, 3) := by decide +kernel
theorem dX11_take_248 : decode cX11_take 248 = .ok (.iload 4, 2) := by decide +kernel
theorem dX11_take_250 : decode cX11_take 250 = .ok (.iconst 0, 1) := by decide +kernel
theorem dX11_take_251 : decode cX11_take 251 = .ok (.iastore, 1) := by decide +kernel
theorem dX11_take_252 : decode cX11_take 252 = .ok (.aload_n 0, 1) := by decide +kernel
theorem dX11_take_253 : decode cX11_take 253 = .ok (.getfield 26, 3) := by decide +kernel
theorem dX11_take_256 : decode cX11_take 256 = .ok (.iload_n 2, 1) := by decide +kernel
theorem dX11_take_257 : decode cX11_take 257 = .ok (.aload_n 0, 1) := by decide +kernel
theorem dX11_take_258 : decode cX11_take 258 = .ok (.getfield 26, 3) := by decide +kernel
theorem dX11_take_261 : decode cX11_take 261 = .ok (.iload_n 2, 1) := by decide +kernel
theorem dX11_take_262 : decode cX11_take 262 = .ok (.iaload, 1) := by decide +kernel
theorem dX11_take_263 : decode cX11_take 263 = .ok (.iload_n 3, 1) := by decide +kernel
theorem dX11_take_264 : decode cX11_take 264 = .ok (.iadd, 1) := by decide +kernel
theorem dX11_take_265 : decode cX11_take 265 = .ok (.iastore, 1) := by decide +kernel
theorem dX11_take_266 : decode cX11_take 266 = .ok (.iconst 1, 1) := by decide +kernel
theorem dX11_take_267 : decode cX11_take 267 = .ok (.ireturn, 1) := by decide +kernel
theorem dX11_send_0 : decode cX11_send 0 = .ok (.aload_n 0, 1) := by decide +kernel
theorem dX11_send_1 : decode cX11_send 1 = .ok (.getfield 166, 3) := by decide +kernel
theorem dX11_send_4 : decode cX11_send 4 = .ok (.sipush 300, 3) := by decide +kernel
theorem dX11_send_7 : decode cX11_send 7 = .ok (.if_icmp .ne 5, 3) := by decide +kernel
theorem dX11_send_10 : decode cX11_send 10 = .ok (.iconst 0, 1) := by decide +kernel
theorem dX11_send_11 : decode cX11_send 11 = .ok (.ireturn, 1) := by decide +kernel
theorem dX11_send_12 : decode cX11_send 12 = .ok (.bipush 8, 2) := by decide +kernel
theorem dX11_send_14 : decode cX11_send 14 = .ok (.aload_n 0, 1) := by decide +kernel
theorem dX11_send_15 : decode cX11_send 15 = .ok (.getfield 166, 3) := by decide +kernel
theorem dX11_send_18 : decode cX11_send 18 = .ok (.imul, 1) := by decide +kernel
theorem dX11_send_19 : decode cX11_send 19 = .ok (.istore 8, 2) := by decide +kernel
theorem dX11_send_21 : decode cX11_send 21 = .ok (.aload_n 0, 1) := by decide +kernel
theorem dX11_send_22 : decode cX11_send 22 = .ok (.getfield 100, 3) := by decide +kernel
theorem dX11_send_25 : decode cX11_send 25 = .ok (.iload 8, 2) := by decide +kernel
theorem dX11_send_27 : decode cX11_send 27 = .ok (.iload_n 1, 1) := by decide +kernel
theorem dX11_send_28 : decode cX11_send 28 = .ok (.iastore, 1) := by decide +kernel
theorem dX11_send_29 : decode cX11_send 29 = .ok (.aload_n 0, 1) := by decide +kernel
theorem dX11_send_30 : decode cX11_send 30 = .ok (.getfield 100, 3) := by decide +kernel
theorem dX11_send_33 : decode cX11_send 33 = .ok (.iload 8, 2) := by decide +kernel
theorem dX11_send_35 : decode cX11_send 35 = .ok (.iconst 1, 1) := by decide +kernel
theorem dX11_send_36 : decode cX11_send 36 = .ok (.iadd, 1) := by decide +kernel
theorem dX11_send_37 : decode cX11_send 37 = .ok (.iload_n 2, 1) := by decide +kernel
theorem dX11_send_38 : decode cX11_send 38 = .ok (.iastore, 1) := by decide +kernel
theorem dX11_send_39 : decode cX11_send 39 = .ok (.aload_n 0, 1) := by decide +kernel
theorem dX11_send_40 : decode cX11_send 40 = .ok (.getfield 100, 3) := by decide +kernel
theorem dX11_send_43 : decode cX11_send 43 = .ok (.iload 8, 2) := by decide +kernel
theorem dX11_send_45 : decode cX11_send 45 = .ok (.iconst 2, 1) := by decide +kernel
theorem dX11_send_46 : decode cX11_send 46 = .ok (.iadd, 1) := by decide +kernel
theorem dX11_send_47 : decode cX11_send 47 = .ok (.iload_n 3, 1) := by decide +kernel
theorem dX11_send_48 : decode cX11_send 48 = .ok (.iastore, 1) := by decide +kernel
theorem dX11_send_49 : decode cX11_send 49 = .ok (.aload_n 0, 1) := by decide +kernel
theorem dX11_send_50 : decode cX11_send 50 = .ok (.getfield 100, 3) := by decide +kernel
theorem dX11_send_53 : decode cX11_send 53 = .ok (.iload 8, 2) := by decide +kernel
theorem dX11_send_55 : decode cX11_send 55 = .ok (.iconst 3, 1) := by decide +kernel
theorem dX11_send_56 : decode cX11_send 56 = .ok (.iadd, 1) := by decide +kernel
theorem dX11_send_57 : decode cX11_send 57 = .ok (.iload 4, 2) := by decide +kernel
theorem dX11_send_59 : decode cX11_send 59 = .ok (.iastore, 1) := by decide +kernel
theorem dX11_send_60 : decode cX11_send 60 = .ok (.aload_n 0, 1) := by decide +kernel
theorem dX11_send_61 : decode cX11_send 61 = .ok (.getfield 100, 3) := by decide +kernel
theorem dX11_send_64 : decode cX11_send 64 = .ok (.iload 8, 2) := by decide +kernel
theorem dX11_send_66 : decode cX11_send 66 = .ok (.iconst 4, 1) := by decide +kernel
theorem dX11_send_67 : decode cX11_send 67 = .ok (.iadd, 1) := by decide +kernel
theorem dX11_send_68 : decode cX11_send 68 = .ok (.iload 5, 2) := by decide +kernel
theorem dX11_send_70 : decode cX11_send 70 = .ok (.iastore, 1) := by decide +kernel
theorem dX11_send_71 : decode cX11_send 71 = .ok (.aload_n 0, 1) := by decide +kernel
theorem dX11_send_72 : decode cX11_send 72 = .ok (.getfield 100, 3) := by decide +kernel
theorem dX11_send_75 : decode cX11_send 75 = .ok (.iload 8, 2) := by decide +kernel
theorem dX11_send_77 : decode cX11_send 77 = .ok (.iconst 5, 1) := by decide +kernel
theorem dX11_send_78 : decode cX11_send 78 = .ok (.iadd, 1) := by decide +kernel
theorem dX11_send_79 : decode cX11_send 79 = .ok (.iload 6, 2) := by decide +kernel
theorem dX11_send_81 : decode cX11_send 81 = .ok (.iastore, 1) := by decide +kernel
theorem dX11_send_82 : decode cX11_send 82 = .ok (.aload_n 0, 1) := by decide +kernel
theorem dX11_send_83 : decode cX11_send 83 = .ok (.getfield 100, 3) := by decide +kernel
theorem dX11_send_86 : decode cX11_send 86 = .ok (.iload 8, 2) := by decide +kernel
theorem dX11_send_88 : decode cX11_send 88 = .ok (.bipush 6, 2) := by decide +kernel
theorem dX11_send_90 : decode cX11_send 90 = .ok (.iadd, 1) := by decide +kernel
theorem dX11_send_91 : decode cX11_send 91 = .ok (.iload 7, 2) := by decide +kernel
theorem dX11_send_93 : decode cX11_send 93 = .ok (.iastore, 1) := by decide +kernel
theorem dX11_send_94 : decode cX11_send 94 = .ok (.aload_n 0, 1) := by decide +kernel
theorem dX11_send_95 : decode cX11_send 95 = .ok (.getfield 100, 3) := by decide +kernel
theorem dX11_send_98 : decode cX11_send 98 = .ok (.iload 8, 2) := by decide +kernel
theorem dX11_send_100 : decode cX11_send 100 = .ok (.bipush 7, 2) := by decide +kernel
theorem dX11_send_102 : decode cX11_send 102 = .ok (.iadd, 1) := by decide +kernel
theorem dX11_send_103 : decode cX11_send 103 = .ok (.iconst 0, 1) := by decide +kernel
theorem dX11_send_104 : decode cX11_send 104 = .ok (.iastore, 1) := by decide +kernel
theorem dX11_send_105 : decode cX11_send 105 = .ok (.aload_n 0, 1) := by decide +kernel
theorem dX11_send_106 : decode cX11_send 106 = .ok (.getfield 103, 3) := by decide +kernel
theorem dX11_send_109 : decode cX11_send 109 = .ok (.aload_n 0, 1) := by decide +kernel
theorem dX11_send_110 : decode cX11_send 110 = .ok (.getfield 166, 3) := by decide +kernel
theorem dX11_send_113 : decode cX11_send 113 = .ok (.iconst 1, 1) := by decide +kernel
theorem dX11_send_114 : decode cX11_send 114 = .ok (.bastore, 1) := by decide +kernel
theorem dX11_send_115 : decode cX11_send 115 = .ok (.aload_n 0, 1) := by decide +kernel
theorem dX11_send_116 : decode cX11_send 116 = .ok (.dup, 1) := by decide +kernel
theorem dX11_send_117 : decode cX11_send 117 = .ok (.getfield 166, 3) := by decide +kernel
theorem dX11_send_120 : decode cX11_send 120 = .ok (.iconst 1, 1) := by decide +kernel
theorem dX11_send_121 : decode cX11_send 121 = .ok (.iadd, 1) := by decide +kernel
theorem dX11_send_122 : decode cX11_send 122 = .ok (.putfield 166, 3) := by decide +kernel
theorem dX11_send_125 : decode cX11_send 125 = .ok (.iconst 1, 1) := by decide +kernel
theorem dX11_send_126 : decode cX11_send 126 = .ok (.ireturn, 1) := by decide +kernel
set_option maxRecDepth 20000 in
theorem ggX11_giveBack_X11_isHold : GoodIn wsX11_giveBack wsX11_isHold := goodIn_r _ [10, 3, 11, 37, 38, 39, 40, 41, 42, 43, 44, 45, 46, 47, 48, 49, 50, 51, 52, 53, 54, 55, 56, 57, 58, 59, 60, 61, 62, 63, 64, 65, 66, 67, 68, 69, 70] (by decide +kernel) (by decide +kernel)
set_option maxRecDepth 20000 in
theorem gX11_giveBack_X11_isHold : GoodIn wsX11_giveBack (wsV RX11 153 RX11 yX11_isHold wsX11_isHold) := goodIn_app (goodIn_of _ (by decide +kernel)) ggX11_giveBack_X11_isHold
set_option maxRecDepth 20000 in
theorem ggX11_giveBack_X11_isLive : GoodIn wsX11_giveBack wsX11_isLive := goodIn_r _ [15, 2, 16, 17, 18, 9, 19, 20, 21, 22, 23, 24, 25, 26, 27, 28, 29, 37, 38, 39, 40, 41, 42, 43, 44, 45, 46, 47, 48, 49, 50, 51, 52, 53, 54, 55, 56, 57, 58, 59, 60, 61, 62, 63, 64, 65, 66, 67, 68, 69, 70] (by decide +kernel) (by decide +kernel)
set_option maxRecDepth 20000 in
theorem gX11_giveBack_X11_isLive : GoodIn wsX11_giveBack (wsV RX11 156 RX11 yX11_isLive wsX11_isLive) := goodIn_app (goodIn_of _ (by decide +kernel)) ggX11_giveBack_X11_isLive
set_option maxRecDepth 20000 in
theorem ggX11_giveBack_X11_age : GoodIn wsX11_giveBack wsX11_age := goodIn_r _ [19, 20, 21, 22, 23, 9, 24, 25, 26, 37, 38, 39, 40, 41, 42, 43, 44, 45, 46, 47, 48, 49, 50, 51, 52, 53, 54, 55, 56, 57, 58, 59, 60, 61, 62, 63, 64, 65, 66, 67, 68, 69, 70] (by decide +kernel) (by decide +kernel)
set_option maxRecDepth 20000 in
theorem gX11_giveBack_X11_age : GoodIn wsX11_giveBack (wsV RX11 146 RX11 yX11_age wsX11_age) := goodIn_app (goodIn_of _ (by decide +kernel)) ggX11_giveBack_X11_age
set_option maxRecDepth 20000 in
theorem ggX11_giveBack_X11_liveTime : GoodIn wsX11_giveBack wsX11_liveTime := goodIn_r _ [29] (by decide +kernel) (by decide +kernel)
set_option maxRecDepth 20000 in
theorem gX11_giveBack_X11_liveTime : GoodIn wsX11_giveBack (va_wsS RX11 150 yX11_liveTime wsX11_liveTime) := goodIn_app (goodIn_of _ (by decide +kernel)) ggX11_giveBack_X11_liveTime
set_option maxRecDepth 20000 in
theorem ggX11_giveBack_X11_send : GoodIn wsX11_giveBack wsX11_send := goodIn_r _ [33, 34, 35, 36, 37, 38, 39, 40, 41, 42, 43, 44, 45, 46, 47, 48, 49, 50, 51, 52, 53, 54, 55, 56, 57, 58, 59, 60, 61, 62, 63, 64, 65, 66, 67, 68, 69, 70] (by decide +kernel) (by decide +kernel)
set_option maxRecDepth 20000 in
theorem gX11_giveBack_X11_send : GoodIn wsX11_giveBack (wsV RX11 169 RX11 yX11_send wsX11_send) := goodIn_app (goodIn_of _ (by decide +kernel)) ggX11_giveBack_X11_send
theorem dX11_giveBack_0 : decode cX11_giveBack 0 = .ok (.iconst 0, 1) := by decide +kernel
theorem dX11_giveBack_1 : decode cX11_giveBack 1 = .ok (.istore_n 3, 1) := by decide +kernel
theorem dX11_giveBack_2 : decode cX11_giveBack 2 = .ok (.iconst 0, 1) := by decide +kernel
theorem dX11_giveBack_3 : decode cX11_giveBack 3 = .ok (.istore 4, 2) := by decide +kernel
theorem dX11_giveBack_5 : decode cX11_giveBack 5 = .ok (.iload 4, 2) := by decide +kernel
theorem dX11_giveBack_7 : decode cX11_giveBack 7 = .ok (.aload_n 0, 1) := by decide +kernel
theorem dX11_giveBack_8 : decode cX11_giveBack 8 = .ok (.getfield 111, 3) := by decide +kernel
theorem dX11_giveBack_11 : decode cX11_giveBack 11 = .ok (.if_icmp .ge 112, 3) := by decide +kernel
theorem dX11_giveBack_14 : decode cX11_giveBack 14 = .ok (.aload_n 0, 1) := by decide +kernel
theorem dX11_giveBack_15 : decode cX11_giveBack 15 = .ok (.iload_n 1, 1) := by decide +kernel
theorem dX11_giveBack_16 : decode cX11_giveBack 16 = .ok (.iload_n 2, 1) := by decide +kernel
theorem dX11_giveBack_17 : decode cX11_giveBack 17 = .ok (.iload 4, 2) := by decide +kernel
theorem dX11_giveBack_19 : decode cX11_giveBack 19 = .ok (.invokevirtual 153, 3) := by decide +kernel
theorem dX11_giveBack_22 : decode cX11_giveBack 22 = .ok (.ifCond .eq 95, 3) := by decide +kernel
theorem dX11_giveBack_25 : decode cX11_giveBack 25 = .ok (.aload_n 0, 1) := by decide +kernel
theorem dX11_giveBack_26 : decode cX11_giveBack 26 = .ok (.iload_n 1, 1) := by decide +kernel
theorem dX11_giveBack_27 : decode cX11_giveBack 27 = .ok (.iload 4, 2) := by decide +kernel
theorem dX11_giveBack_29 : decode cX11_giveBack 29 = .ok (.invokevirtual 156, 3) := by decide +kernel
theorem dX11_giveBack_32 : decode cX11_giveBack 32 = .ok (.istore 5, 2) := by decide +kernel
theorem dX11_giveBack_34 : decode cX11_giveBack 34 = .ok (.iconst 2, 1) := by decide +kernel
theorem dX11_giveBack_35 : decode cX11_giveBack 35 = .ok (.aload_n 0, 1) := by decide +kernel
theorem dX11_giveBack_36 : decode cX11_giveBack 36 = .ok (.iload_n 1, 1) := by decide +kernel
theorem dX11_giveBack_37 : decode cX11_giveBack 37 = .ok (.iload 4, 2) := by decide +kernel
theorem dX11_giveBack_39 : decode cX11_giveBack 39 = .ok (.invokevirtual 146, 3) := by decide +kernel
theorem dX11_giveBack_42 : decode cX11_giveBack 42 = .ok (.imul, 1) := by decide +kernel
theorem dX11_giveBack_43 : decode cX11_giveBack 43 = .ok (.aload_n 0, 1) := by decide +kernel
theorem dX11_giveBack_44 : decode cX11_giveBack 44 = .ok (.getfield 97, 3) := by decide +kernel
theorem dX11_giveBack_47 : decode cX11_giveBack 47 = .ok (.iload 4, 2) := by decide +kernel
theorem dX11_giveBack_49 : decode cX11_giveBack 49 = .ok (.iaload, 1) := by decide +kernel
theorem dX11_giveBack_50 : decode cX11_giveBack 50 = .ok (.invokestatic 150, 3) := by decide +kernel
theorem dX11_giveBack_53 : decode cX11_giveBack 53 = .ok (.if_icmp .lt 7, 3) := by decide +kernel
theorem dX11_giveBack_56 : decode cX11_giveBack 56 = .ok (.iconst 1, 1) := by decide +kernel
theorem dX11_giveBack_57 : decode cX11_giveBack 57 = .ok (.goto 4, 3) := by decide +kernel
theorem dX11_giveBack_60 : decode cX11_giveBack 60 = .ok (.iconst 0, 1) := by decide +kernel
theorem dX11_giveBack_61 : decode cX11_giveBack 61 = .ok (.istore 6, 2) := by decide +kernel
theorem dX11_giveBack_63 : decode cX11_giveBack 63 = .ok (.iload 5, 2) := by decide +kernel
theorem dX11_giveBack_65 : decode cX11_giveBack 65 = .ok (.ifCond .eq 8, 3) := by decide +kernel
theorem dX11_giveBack_68 : decode cX11_giveBack 68 = .ok (.iload 6, 2) := by decide +kernel
theorem dX11_giveBack_70 : decode cX11_giveBack 70 = .ok (.ifCond .eq 11, 3) := by decide +kernel
theorem dX11_giveBack_73 : decode cX11_giveBack 73 = .ok (.aload_n 0, 1) := by decide +kernel
theorem dX11_giveBack_74 : decode cX11_giveBack 74 = .ok (.getfield 88, 3) := by decide +kernel
theorem dX11_giveBack_77 : decode cX11_giveBack 77 = .ok (.iload 4, 2) := by decide +kernel
theorem dX11_giveBack_79 : decode cX11_giveBack 79 = .ok (.iconst 0, 1) := by decide +kernel
theorem dX11_giveBack_80 : decode cX11_giveBack 80 = .ok (.iastore, 1) := by decide +kernel
theorem dX11_giveBack_81 : decode cX11_giveBack 81 = .ok (.iload 5, 2) := by decide +kernel
theorem dX11_giveBack_83 : decode cX11_giveBack 83 = .ok (.ifCond .eq 34, 3) := by decide +kernel
theorem dX11_giveBack_86 : decode cX11_giveBack 86 = .ok (.iload 6, 2) := by decide +kernel
theorem dX11_giveBack_88 : decode cX11_giveBack 88 = .ok (.ifCond .eq 29, 3) := by decide +kernel
theorem dX11_giveBack_91 : decode cX11_giveBack 91 = .ok (.iload_n 3, 1) := by decide +kernel
theorem dX11_giveBack_92 : decode cX11_giveBack 92 = .ok (.aload_n 0, 1) := by decide +kernel
theorem dX11_giveBack_93 : decode cX11_giveBack 93 = .ok (.iconst 2, 1) := by decide +kernel
theorem dX11_giveBack_94 : decode cX11_giveBack 94 = .ok (.iload_n 1, 1) := by decide +kernel
theorem dX11_giveBack_95 : decode cX11_giveBack 95 = .ok (.iload_n 2, 1) := by decide +kernel
theorem dX11_giveBack_96 : decode cX11_giveBack 96 = .ok (.aload_n 0, 1) := by decide +kernel
theorem dX11_giveBack_97 : decode cX11_giveBack 97 = .ok (.getfield 91, 3) := by decide +kernel
theorem dX11_giveBack_100 : decode cX11_giveBack 100 = .ok (.iload 4, 2) := by decide +kernel
theorem dX11_giveBack_102 : decode cX11_giveBack 102 = .ok (.iaload, 1) := by decide +kernel
theorem dX11_giveBack_103 : decode cX11_giveBack 103 = .ok (.aload_n 0, 1) := by decide +kernel
theorem dX11_giveBack_104 : decode cX11_giveBack 104 = .ok (.getfield 67, 3) := by decide +kernel
theorem dX11_giveBack_107 : decode cX11_giveBack 107 = .ok (.iload_n 1, 1) := by decide +kernel
theorem dX11_giveBack_108 : decode cX11_giveBack 108 = .ok (.iaload, 1) := by decide +kernel
theorem dX11_giveBack_109 : decode cX11_giveBack 109 = .ok (.iconst (-1), 1) := by decide +kernel
theorem dX11_giveBack_110 : decode cX11_giveBack 110 = .ok (.iload 4, 2) := by decide +kernel
theorem dX11_giveBack_112 : decode cX11_giveBack 112 = .ok (.invokevirtual 169, 3) := by decide +kernel
theorem dX11_giveBack_115 : decode cX11_giveBack 115 = .ok (.iadd, 1) := by decide +kernel
theorem dX11_giveBack_116 : decode cX11_giveBack 116 = .ok (.istore_n 3, 1) := by decide +kernel
theorem dX11_giveBack_117 : decode cX11_giveBack 117 = .ok (.iinc 4 1, 3) := by decide +kernel
theorem dX11_giveBack_120 : decode cX11_giveBack 120 = .ok (.goto (-115), 3) := by decide +kernel
theorem dX11_giveBack_123 : decode cX11_giveBack 123 = .ok (.iload_n 3, 1) := by decide +kernel
theorem dX11_giveBack_124 : decode cX11_giveBack 124 = .ok (.ireturn, 1) := by decide +kernel
set_option maxRecDepth 20000 in
theorem ggX11_work_X11_isIn : GoodIn wsX11_work wsX11_isIn := goodIn_r _ [10] (by decide +kernel) (by decide +kernel)
set_option maxRecDepth 20000 in
theorem gX11_work_X11_isIn : GoodIn wsX11_work (va_wsS RX11 118 yX11_isIn wsX11_isIn) := goodIn_app (goodIn_of _ (by decide +kernel)) ggX11_work_X11_isIn
set_option maxRecDepth 20000 in
theorem ggX11_work_X11_refused : GoodIn wsX11_work wsX11_refused := goodIn_r _ [14, 15, 58, 59, 60, 61, 62, 63, 64, 65, 66, 67, 68, 69, 70, 71, 72, 73, 74, 75, 76, 77, 78, 79, 80, 81, 82, 83, 84, 85, 86, 87, 88, 89, 90, 91] (by decide +kernel) (by decide +kernel)
set_option maxRecDepth 20000 in
theorem gX11_work_X11_refused : GoodIn wsX11_work (wsV RX11 124 RX11 yX11_refused wsX11_refused) := goodIn_app (goodIn_of _ (by decide +kernel)) ggX11_work_X11_refused
set_option maxRecDepth 20000 in
theorem ggX11_work_X11_giveBack : GoodIn wsX11_work wsX11_giveBack := goodIn_r _ [19, 20, 21, 22, 23, 6, 24, 25, 26, 9, 27, 28, 29, 30, 31, 32, 33, 34, 35, 36, 37, 38, 39, 40, 41, 42, 43, 44, 45, 46, 47, 48, 49, 50, 51, 52, 53, 58, 59, 60, 61, 62, 63, 64, 65, 66, 67, 68, 69, 70, 71, 72, 73, 74, 75, 76, 77, 78, 79, 80, 81, 82, 83, 84, 85, 86, 87, 88, 89, 90, 91] (by decide +kernel) (by decide +kernel)
set_option maxRecDepth 20000 in
theorem gX11_work_X11_giveBack : GoodIn wsX11_work (wsV RX11 173 RX11 yX11_giveBack wsX11_giveBack) := goodIn_app (goodIn_of _ (by decide +kernel)) ggX11_work_X11_giveBack
set_option maxRecDepth 20000 in
theorem ggX11_work_X11_live : GoodIn wsX11_work wsX11_live := goodIn_r _ [57, 20, 23, 24, 25, 26, 9, 27, 22, 28, 29, 30, 31, 32, 21, 33, 34, 35, 36, 37, 38, 39, 40, 41, 42, 43, 44, 45, 46, 58, 59, 60, 61, 62, 63, 64, 65, 66, 67, 68, 69, 70, 71, 72, 73, 74, 75, 76, 77, 78, 79, 80, 81, 82, 83, 84, 85, 86, 87, 88, 89, 90, 91] (by decide +kernel) (by decide +kernel)
set_option maxRecDepth 20000 in
theorem gX11_work_X11_live : GoodIn wsX11_work (wsV RX11 163 RX11 yX11_live wsX11_live) := goodIn_app (goodIn_of _ (by decide +kernel)) ggX11_work_X11_live
set_option maxRecDepth 20000 in
theorem ggX11_work_X11_clockOf : GoodIn wsX11_work wsX11_clockOf := goodIn_r _ [41, 42, 43, 58, 59, 60, 61, 62, 63, 64, 65, 66, 67, 68, 69, 70, 71, 72, 73, 74, 75, 76, 77, 78, 79, 80, 81, 82, 83, 84, 85, 86, 87, 88, 89, 90, 91] (by decide +kernel) (by decide +kernel)
set_option maxRecDepth 20000 in
theorem gX11_work_X11_clockOf : GoodIn wsX11_work (wsV RX11 139 RX11 yX11_clockOf wsX11_clockOf) := goodIn_app (goodIn_of _ (by decide +kernel)) ggX11_work_X11_clockOf
set_option maxRecDepth 20000 in
theorem ggX11_work_X11_send : GoodIn wsX11_work wsX11_send := goodIn_r _ [50, 51, 52, 53, 58, 59, 60, 61, 62, 63, 64, 65, 66, 67, 68, 69, 70, 71, 72, 73, 74, 75, 76, 77, 78, 79, 80, 81, 82, 83, 84, 85, 86, 87, 88, 89, 90, 91] (by decide +kernel) (by decide +kernel)
set_option maxRecDepth 20000 in
theorem gX11_work_X11_send : GoodIn wsX11_work (wsV RX11 169 RX11 yX11_send wsX11_send) := goodIn_app (goodIn_of _ (by decide +kernel)) ggX11_work_X11_send
theorem dX11_work_0 : decode cX11_work 0 = .ok (.aload_n 0, 1) := by decide +kernel
theorem dX11_work_1 : decode cX11_work 1 = .ok (.iload_n 1, 1) := by decide +kernel
theorem dX11_work_2 : decode cX11_work 2 = .ok (.iconst 0, 1) := by decide +kernel
theorem dX11_work_3 : decode cX11_work 3 = .ok (.iconst 5, 1) := by decide +kernel
theorem dX11_work_4 : decode cX11_work 4 = .ok (.invokestatic 118, 3) := by decide +kernel
theorem dX11_work_7 : decode cX11_work 7 = .ok (.ifCond .eq 7, 3) := by decide +kernel
theorem dX11_work_10 : decode cX11_work 10 = .ok (.iconst 0, 1) := by decide +kernel
theorem dX11_work_11 : decode cX11_work 11 = .ok (.goto 4, 3) := by decide +kernel
theorem dX11_work_14 : decode cX11_work 14 = .ok (.iconst 1, 1) := by decide +kernel
theorem dX11_work_15 : decode cX11_work 15 = .ok (.invokevirtual 124, 3) := by decide +kernel
theorem dX11_work_18 : decode cX11_work 18 = .ok (.ifCond .eq 5, 3) := by decide +kernel
theorem dX11_work_21 : decode cX11_work 21 = .ok (.iconst 0, 1) := by decide +kernel
theorem dX11_work_22 : decode cX11_work 22 = .ok (.ireturn, 1) := by decide +kernel
theorem dX11_work_23 : decode cX11_work 23 = .ok (.iconst 0, 1) := by decide +kernel
theorem dX11_work_24 : decode cX11_work 24 = .ok (.istore_n 2, 1) := by decide +kernel
theorem dX11_work_25 : decode cX11_work 25 = .ok (.iconst 0, 1) := by decide +kernel
theorem dX11_work_26 : decode cX11_work 26 = .ok (.istore_n 3, 1) := by decide +kernel
theorem dX11_work_27 : decode cX11_work 27 = .ok (.iload_n 3, 1) := by decide +kernel
theorem dX11_work_28 : decode cX11_work 28 = .ok (.bipush 8, 2) := by decide +kernel
theorem dX11_work_30 : decode cX11_work 30 = .ok (.if_icmp .ge 167, 3) := by decide +kernel
theorem dX11_work_33 : decode cX11_work 33 = .ok (.iload_n 2, 1) := by decide +kernel
theorem dX11_work_34 : decode cX11_work 34 = .ok (.aload_n 0, 1) := by decide +kernel
theorem dX11_work_35 : decode cX11_work 35 = .ok (.iload_n 1, 1) := by decide +kernel
theorem dX11_work_36 : decode cX11_work 36 = .ok (.iload_n 3, 1) := by decide +kernel
theorem dX11_work_37 : decode cX11_work 37 = .ok (.invokevirtual 173, 3) := by decide +kernel
theorem dX11_work_40 : decode cX11_work 40 = .ok (.iadd, 1) := by decide +kernel
theorem dX11_work_41 : decode cX11_work 41 = .ok (.istore_n 2, 1) := by decide +kernel
theorem dX11_work_42 : decode cX11_work 42 = .ok (.bipush 8, 2) := by decide +kernel
theorem dX11_work_44 : decode cX11_work 44 = .ok (.iload_n 1, 1) := by decide +kernel
theorem dX11_work_45 : decode cX11_work 45 = .ok (.imul, 1) := by decide +kernel
theorem dX11_work_46 : decode cX11_work 46 = .ok (.iload_n 3, 1) := by decide +kernel
theorem dX11_work_47 : decode cX11_work 47 = .ok (.iadd, 1) := by decide +kernel
theorem dX11_work_48 : decode cX11_work 48 = .ok (.istore 4, 2) := by decide +kernel
theorem dX11_work_50 : decode cX11_work 50 = .ok (.aload_n 0, 1) := by decide +kernel
theorem dX11_work_51 : decode cX11_work 51 = .ok (.getfield 70, 3) := by decide +kernel
theorem dX11_work_54 : decode cX11_work 54 = .ok (.iload 4, 2) := by decide +kernel
theorem dX11_work_56 : decode cX11_work 56 = .ok (.aload_n 0, 1) := by decide +kernel
theorem dX11_work_57 : decode cX11_work 57 = .ok (.getfield 73, 3) := by decide +kernel
theorem dX11_work_60 : decode cX11_work 60 = .ok (.iload 4, 2) := by decide +kernel
theorem dX11_work_62 : decode cX11_work 62 = .ok (.iaload, 1) := by decide +kernel
theorem dX11_work_63 : decode cX11_work 63 = .ok (.aload_n 0, 1) := by decide +kernel
theorem dX11_work_64 : decode cX11_work 64 = .ok (.getfield 70, 3) := by decide +kernel
theorem dX11_work_67 : decode cX11_work 67 = .ok (.iload 4, 2) := by decide +kernel
theorem dX11_work_69 : decode cX11_work 69 = .ok (.iaload, 1) := by decide +kernel
theorem dX11_work_70 : decode cX11_work 70 = .ok (.iconst 2, 1) := by decide +kernel
theorem dX11_work_71 : decode cX11_work 71 = .ok (.idiv, 1) := by decide +kernel
theorem dX11_work_72 : decode cX11_work 72 = .ok (.iadd, 1) := by decide +kernel
theorem dX11_work_73 : decode cX11_work 73 = .ok (.iastore, 1) := by decide +kernel
theorem dX11_work_74 : decode cX11_work 74 = .ok (.aload_n 0, 1) := by decide +kernel
theorem dX11_work_75 : decode cX11_work 75 = .ok (.getfield 73, 3) := by decide +kernel
theorem dX11_work_78 : decode cX11_work 78 = .ok (.iload 4, 2) := by decide +kernel
theorem dX11_work_80 : decode cX11_work 80 = .ok (.iconst 0, 1) := by decide +kernel
theorem dX11_work_81 : decode cX11_work 81 = .ok (.iastore, 1) := by decide +kernel
theorem dX11_work_82 : decode cX11_work 82 = .ok (.iconst 2, 1) := by decide +kernel
theorem dX11_work_83 : decode cX11_work 83 = .ok (.aload_n 0, 1) := by decide +kernel
theorem dX11_work_84 : decode cX11_work 84 = .ok (.getfield 70, 3) := by decide +kernel
theorem dX11_work_87 : decode cX11_work 87 = .ok (.iload 4, 2) := by decide +kernel
theorem dX11_work_89 : decode cX11_work 89 = .ok (.iaload, 1) := by decide +kernel
theorem dX11_work_90 : decode cX11_work 90 = .ok (.imul, 1) := by decide +kernel
theorem dX11_work_91 : decode cX11_work 91 = .ok (.aload_n 0, 1) := by decide +kernel
theorem dX11_work_92 : decode cX11_work 92 = .ok (.iload_n 1, 1) := by decide +kernel
theorem dX11_work_93 : decode cX11_work 93 = .ok (.iload_n 3, 1) := by decide +kernel
theorem dX11_work_94 : decode cX11_work 94 = .ok (.invokevirtual 163, 3) := by decide +kernel
theorem dX11_work_97 : decode cX11_work 97 = .ok (.isub, 1) := by decide +kernel
theorem dX11_work_98 : decode cX11_work 98 = .ok (.istore 5, 2) := by decide +kernel
theorem dX11_work_100 : decode cX11_work 100 = .ok (.iload 5, 2) := by decide +kernel
theorem dX11_work_102 : decode cX11_work 102 = .ok (.ifCond .le 89, 3) := by decide +kernel
theorem dX11_work_105 : decode cX11_work 105 = .ok (.aload_n 0, 1) := by decide +kernel
theorem dX11_work_106 : decode cX11_work 106 = .ok (.getfield 79, 3) := by decide +kernel
theorem dX11_work_109 : decode cX11_work 109 = .ok (.iload 4, 2) := by decide +kernel
theorem dX11_work_111 : decode cX11_work 111 = .ok (.baload, 1) := by decide +kernel
theorem dX11_work_112 : decode cX11_work 112 = .ok (.ifCond .eq 22, 3) := by decide +kernel
theorem dX11_work_115 : decode cX11_work 115 = .ok (.aload_n 0, 1) := by decide +kernel
theorem dX11_work_116 : decode cX11_work 116 = .ok (.iload_n 1, 1) := by decide +kernel
theorem dX11_work_117 : decode cX11_work 117 = .ok (.invokevirtual 139, 3) := by decide +kernel
theorem dX11_work_120 : decode cX11_work 120 = .ok (.aload_n 0, 1) := by decide +kernel
theorem dX11_work_121 : decode cX11_work 121 = .ok (.getfield 82, 3) := by decide +kernel
theorem dX11_work_124 : decode cX11_work 124 = .ok (.iload 4, 2) := by decide +kernel
theorem dX11_work_126 : decode cX11_work 126 = .ok (.iaload, 1) := by decide +kernel
theorem dX11_work_127 : decode cX11_work 127 = .ok (.isub, 1) := by decide +kernel
theorem dX11_work_128 : decode cX11_work 128 = .ok (.sipush 500, 3) := by decide +kernel
theorem dX11_work_131 : decode cX11_work 131 = .ok (.if_icmp .lt 60, 3) := by decide +kernel
theorem dX11_work_134 : decode cX11_work 134 = .ok (.aload_n 0, 1) := by decide +kernel
theorem dX11_work_135 : decode cX11_work 135 = .ok (.getfield 76, 3) := by decide +kernel
theorem dX11_work_138 : decode cX11_work 138 = .ok (.iload 4, 2) := by decide +kernel
theorem dX11_work_140 : decode cX11_work 140 = .ok (.dup2, 1) := by decide +kernel
theorem dX11_work_141 : decode cX11_work 141 = .ok (.iaload, 1) := by decide +kernel
theorem dX11_work_142 : decode cX11_work 142 = .ok (.iconst 1, 1) := by decide +kernel
theorem dX11_work_143 : decode cX11_work 143 = .ok (.iadd, 1) := by decide +kernel
theorem dX11_work_144 : decode cX11_work 144 = .ok (.iastore, 1) := by decide +kernel
theorem dX11_work_145 : decode cX11_work 145 = .ok (.aload_n 0, 1) := by decide +kernel
theorem dX11_work_146 : decode cX11_work 146 = .ok (.getfield 79, 3) := by decide +kernel
theorem dX11_work_149 : decode cX11_work 149 = .ok (.iload 4, 2) := by decide +kernel
theorem dX11_work_151 : decode cX11_work 151 = .ok (.iconst 1, 1) := by decide +kernel
theorem dX11_work_152 : decode cX11_work 152 = .ok (.bastore, 1) := by decide +kernel
theorem dX11_work_153 : decode cX11_work 153 = .ok (.aload_n 0, 1) := by decide +kernel
theorem dX11_work_154 : decode cX11_work 154 = .ok (.getfield 82, 3) := by decide +kernel
theorem dX11_work_157 : decode cX11_work 157 = .ok (.iload 4, 2) := by decide +kernel
theorem dX11_work_159 : decode cX11_work 159 = .ok (.aload_n 0, 1) := by decide +kernel
theorem dX11_work_160 : decode cX11_work 160 = .ok (.iload_n 1, 1) := by decide +kernel
theorem dX11_work_161 : decode cX11_work 161 = .ok (.invokevirtual 139, 3) := by decide +kernel
theorem dX11_work_164 : decode cX11_work 164 = .ok (.iastore, 1) := by decide +kernel
theorem dX11_work_165 : decode cX11_work 165 = .ok (.iload_n 2, 1) := by decide +kernel
theorem dX11_work_166 : decode cX11_work 166 = .ok (.aload_n 0, 1) := by decide +kernel
theorem dX11_work_167 : decode cX11_work 167 = .ok (.iconst 0, 1) := by decide +kernel
theorem dX11_work_168 : decode cX11_work 168 = .ok (.iload_n 1, 1) := by decide +kernel
theorem dX11_work_169 : decode cX11_work 169 = .ok (.iload_n 3, 1) := by decide +kernel
theorem dX11_work_170 : decode cX11_work 170 = .ok (.iload 5, 2) := by decide +kernel
theorem dX11_work_172 : decode cX11_work 172 = .ok (.aload_n 0, 1) := by decide +kernel
theorem dX11_work_173 : decode cX11_work 173 = .ok (.getfield 67, 3) := by decide +kernel
theorem dX11_work_176 : decode cX11_work 176 = .ok (.iload_n 1, 1) := by decide +kernel
theorem dX11_work_177 : decode cX11_work 177 = .ok (.iaload, 1) := by decide +kernel
theorem dX11_work_178 : decode cX11_work 178 = .ok (.aload_n 0, 1) := by decide +kernel
theorem dX11_work_179 : decode cX11_work 179 = .ok (.getfield 76, 3) := by decide +kernel
theorem dX11_work_182 : decode cX11_work 182 = .ok (.iload 4, 2) := by decide +kernel
theorem dX11_work_184 : decode cX11_work 184 = .ok (.iaload, 1) := by decide +kernel
theorem dX11_work_185 : decode cX11_work 185 = .ok (.iconst (-1), 1) := by decide +kernel
theorem dX11_work_186 : decode cX11_work 186 = .ok (.invokevirtual 169, 3) := by decide +kernel
theorem dX11_work_189 : decode cX11_work 189 = .ok (.iadd, 1) := by decide +kernel
theorem dX11_work_190 : decode cX11_work 190 = .ok (.istore_n 2, 1) := by decide +kernel
theorem dX11_work_191 : decode cX11_work 191 = .ok (.iinc 3 1, 3) := by decide +kernel
theorem dX11_work_194 : decode cX11_work 194 = .ok (.goto (-167), 3) := by decide +kernel
theorem dX11_work_197 : decode cX11_work 197 = .ok (.iload_n 2, 1) := by decide +kernel
theorem dX11_work_198 : decode cX11_work 198 = .ok (.ireturn, 1) := by decide +kernel
set_option maxRecDepth 20000 in
theorem ggX11_restart_X11_isIn : GoodIn wsX11_restart wsX11_isIn := goodIn_r _ [13] (by decide +kernel) (by decide +kernel)
set_option maxRecDepth 20000 in
theorem gX11_restart_X11_isIn : GoodIn wsX11_restart (va_wsS RX11 118 yX11_isIn wsX11_isIn) := goodIn_app (goodIn_of _ (by decide +kernel)) ggX11_restart_X11_isIn
set_option maxRecDepth 20000 in
theorem ggX11_restart_X11_refused : GoodIn wsX11_restart wsX11_refused := goodIn_r _ [17, 18, 19, 20, 21, 22, 23, 24, 25, 26, 27, 28, 29, 30, 31, 32, 33, 34, 35, 36, 37, 38, 39, 40, 41, 42, 43, 44, 45, 46, 47, 48, 49, 50, 51, 52] (by decide +kernel) (by decide +kernel)
set_option maxRecDepth 20000 in
theorem gX11_restart_X11_refused : GoodIn wsX11_restart (wsV RX11 124 RX11 yX11_refused wsX11_refused) := goodIn_app (goodIn_of _ (by decide +kernel)) ggX11_restart_X11_refused
theorem dX11_restart_0 : decode cX11_restart 0 = .ok (.aload_n 0, 1) := by decide +kernel
theorem dX11_restart_1 : decode cX11_restart 1 = .ok (.iload_n 1, 1) := by decide +kernel
theorem dX11_restart_2 : decode cX11_restart 2 = .ok (.iconst 0, 1) := by decide +kernel
theorem dX11_restart_3 : decode cX11_restart 3 = .ok (.iconst 5, 1) := by decide +kernel
theorem dX11_restart_4 : decode cX11_restart 4 = .ok (.invokestatic 118, 3) := by decide +kernel
theorem dX11_restart_7 : decode cX11_restart 7 = .ok (.ifCond .eq 7, 3) := by decide +kernel
theorem dX11_restart_10 : decode cX11_restart 10 = .ok (.iconst 0, 1) := by decide +kernel
theorem dX11_restart_11 : decode cX11_restart 11 = .ok (.goto 4, 3) := by decide +kernel
theorem dX11_restart_14 : decode cX11_restart 14 = .ok (.iconst 1, 1) := by decide +kernel
theorem dX11_restart_15 : decode cX11_restart 15 = .ok (.invokevirtual 124, 3) := by decide +kernel
theorem dX11_restart_18 : decode cX11_restart 18 = .ok (.ifCond .eq 5, 3) := by decide +kernel
theorem dX11_restart_21 : decode cX11_restart 21 = .ok (.iconst 0, 1) := by decide +kernel
theorem dX11_restart_22 : decode cX11_restart 22 = .ok (.ireturn, 1) := by decide +kernel
theorem dX11_restart_23 : decode cX11_restart 23 = .ok (.aload_n 0, 1) := by decide +kernel
theorem dX11_restart_24 : decode cX11_restart 24 = .ok (.getfield 67, 3) := by decide +kernel
theorem dX11_restart_27 : decode cX11_restart 27 = .ok (.iload_n 1, 1) := by decide +kernel
theorem dX11_restart_28 : decode cX11_restart 28 = .ok (.dup2, 1) := by decide +kernel
theorem dX11_restart_29 : decode cX11_restart 29 = .ok (.iaload, 1) := by decide +kernel
theorem dX11_restart_30 : decode cX11_restart 30 = .ok (.iconst 1, 1) := by decide +kernel
theorem dX11_restart_31 : decode cX11_restart 31 = .ok (.iadd, 1) := by decide +kernel
theorem dX11_restart_32 : decode cX11_restart 32 = .ok (.iastore, 1) := by decide +kernel
theorem dX11_restart_33 : decode cX11_restart 33 = .ok (.iconst 0, 1) := by decide +kernel
theorem dX11_restart_34 : decode cX11_restart 34 = .ok (.istore_n 2, 1) := by decide +kernel
theorem dX11_restart_35 : decode cX11_restart 35 = .ok (.iload_n 2, 1) := by decide +kernel
theorem dX11_restart_36 : decode cX11_restart 36 = .ok (.aload_n 0, 1) := by decide +kernel
theorem dX11_restart_37 : decode cX11_restart 37 = .ok (.getfield 111, 3) := by decide +kernel
theorem dX11_restart_40 : decode cX11_restart 40 = .ok (.if_icmp .ge 37, 3) := by decide +kernel
theorem dX11_restart_43 : decode cX11_restart 43 = .ok (.aload_n 0, 1) := by decide +kernel
theorem dX11_restart_44 : decode cX11_restart 44 = .ok (.getfield 88, 3) := by decide +kernel
theorem dX11_restart_47 : decode cX11_restart 47 = .ok (.iload_n 2, 1) := by decide +kernel
theorem dX11_restart_48 : decode cX11_restart 48 = .ok (.aload_n 0, 1) := by decide +kernel
theorem dX11_restart_49 : decode cX11_restart 49 = .ok (.getfield 88, 3) := by decide +kernel
theorem dX11_restart_52 : decode cX11_restart 52 = .ok (.iload_n 2, 1) := by decide +kernel
theorem dX11_restart_53 : decode cX11_restart 53 = .ok (.iaload, 1) := by decide +kernel
theorem dX11_restart_54 : decode cX11_restart 54 = .ok (.iload_n 1, 1) := by decide +kernel
theorem dX11_restart_55 : decode cX11_restart 55 = .ok (.iconst 1, 1) := by decide +kernel
theorem dX11_restart_56 : decode cX11_restart 56 = .ok (.iadd, 1) := by decide +kernel
theorem dX11_restart_57 : decode cX11_restart 57 = .ok (.if_icmp .ne 7, 3) := by decide +kernel
theorem dX11_restart_60 : decode cX11_restart 60 = .ok (.iconst 0, 1) := by decide +kernel
theorem dX11_restart_61 : decode cX11_restart 61 = .ok (.goto 9, 3) := by decide +kernel
theorem dX11_restart_64 : decode cX11_restart 64 = .ok (.aload_n 0, 1) := by decide +kernel
theorem dX11_restart_65 : decode cX11_restart 65 = .ok (.getfield 88, 3) := by decide +kernel
theorem dX11_restart_68 : decode cX11_restart 68 = .ok (.iload_n 2, 1) := by decide +kernel
theorem dX11_restart_69 : decode cX11_restart 69 = .ok (.iaload, 1) := by decide +kernel
theorem dX11_restart_70 : decode cX11_restart 70 = .ok (.iastore, 1) := by decide +kernel
theorem dX11_restart_71 : decode cX11_restart 71 = .ok (.iinc 2 1, 3) := by decide +kernel
theorem dX11_restart_74 : decode cX11_restart 74 = .ok (.goto (-39), 3) := by decide +kernel
theorem dX11_restart_77 : decode cX11_restart 77 = .ok (.bipush 8, 2) := by decide +kernel
theorem dX11_restart_79 : decode cX11_restart 79 = .ok (.iload_n 1, 1) := by decide +kernel
theorem dX11_restart_80 : decode cX11_restart 80 = .ok (.imul, 1) := by decide +kernel
theorem dX11_restart_81 : decode cX11_restart 81 = .ok (.istore_n 2, 1) := by decide +kernel
theorem dX11_restart_82 : decode cX11_restart 82 = .ok (.iload_n 2, 1) := by decide +kernel
theorem dX11_restart_83 : decode cX11_restart 83 = .ok (.bipush 8, 2) := by decide +kernel
theorem dX11_restart_85 : decode cX11_restart 85 = .ok (.iload_n 1, 1) := by decide +kernel
theorem dX11_restart_86 : decode cX11_restart 86 = .ok (.imul, 1) := by decide +kernel
theorem dX11_restart_87 : decode cX11_restart 87 = .ok (.bipush 8, 2) := by decide +kernel
theorem dX11_restart_89 : decode cX11_restart 89 = .ok (.iadd, 1) := by decide +kernel
theorem dX11_restart_90 : decode cX11_restart 90 = .ok (.if_icmp .ge 51, 3) := by decide +kernel
theorem dX11_restart_93 : decode cX11_restart 93 = .ok (.aload_n 0, 1) := by decide +kernel
theorem dX11_restart_94 : decode cX11_restart 94 = .ok (.getfield 70, 3) := by decide +kernel
theorem dX11_restart_97 : decode cX11_restart 97 = .ok (.iload_n 2, 1) := by decide +kernel
theorem dX11_restart_98 : decode cX11_restart 98 = .ok (.iconst 0, 1) := by decide +kernel
theorem dX11_restart_99 : decode cX11_restart 99 = .ok (.iastore, 1) := by decide +kernel
theorem dX11_restart_100 : decode cX11_restart 100 = .ok (.aload_n 0, 1) := by decide +kernel
theorem dX11_restart_101 : decode cX11_restart 101 = .ok (.getfield 73, 3) := by decide +kernel
theorem dX11_restart_104 : decode cX11_restart 104 = .ok (.iload_n 2, 1) := by decide +kernel
theorem dX11_restart_105 : decode cX11_restart 105 = .ok (.iconst 0, 1) := by decide +kernel
theorem dX11_restart_106 : decode cX11_restart 106 = .ok (.iastore, 1) := by decide +kernel
theorem dX11_restart_107 : decode cX11_restart 107 = .ok (.aload_n 0, 1) := by decide +kernel
theorem dX11_restart_108 : decode cX11_restart 108 = .ok (.getfield 76, 3) := by decide +kernel
theorem dX11_restart_111 : decode cX11_restart 111 = .ok (.iload_n 2, 1) := by decide +kernel
theorem dX11_restart_112 : decode cX11_restart 112 = .ok (.iconst 0, 1) := by decide +kernel
theorem dX11_restart_113 : decode cX11_restart 113 = .ok (.iastore, 1) := by decide +kernel
theorem dX11_restart_114 : decode cX11_restart 114 = .ok (.aload_n 0, 1) := by decide +kernel
theorem dX11_restart_115 : decode cX11_restart 115 = .ok (.getfield 79, 3) := by decide +kernel
theorem dX11_restart_118 : decode cX11_restart 118 = .ok (.iload_n 2, 1) := by decide +kernel
theorem dX11_restart_119 : decode cX11_restart 119 = .ok (.iconst 0, 1) := by decide +kernel
theorem dX11_restart_120 : decode cX11_restart 120 = .ok (.bastore, 1) := by decide +kernel
theorem dX11_restart_121 : decode cX11_restart 121 = .ok (.aload_n 0, 1) := by decide +kernel
theorem dX11_restart_122 : decode cX11_restart 122 = .ok (.getfield 82, 3) := by decide +kernel
theorem dX11_restart_125 : decode cX11_restart 125 = .ok (.iload_n 2, 1) := by decide +kernel
theorem dX11_restart_126 : decode cX11_restart 126 = .ok (.iconst 0, 1) := by decide +kernel
theorem dX11_restart_127 : decode cX11_restart 127 = .ok (.iastore, 1) := by decide +kernel
theorem dX11_restart_128 : decode cX11_restart 128 = .ok (.aload_n 0, 1) := by decide +kernel
theorem dX11_restart_129 : decode cX11_restart 129 = .ok (.getfield 85, 3) := by decide +kernel
theorem dX11_restart_132 : decode cX11_restart 132 = .ok (.iload_n 2, 1) := by decide +kernel
theorem dX11_restart_133 : decode cX11_restart 133 = .ok (.iconst 0, 1) := by decide +kernel
theorem dX11_restart_134 : decode cX11_restart 134 = .ok (.iastore, 1) := by decide +kernel
theorem dX11_restart_135 : decode cX11_restart 135 = .ok (.iinc 2 1, 3) := by decide +kernel
theorem dX11_restart_138 : decode cX11_restart 138 = .ok (.goto (-56), 3) := by decide +kernel
theorem dX11_restart_141 : decode cX11_restart 141 = .ok (.aload_n 0, 1) := by decide +kernel
theorem dX11_restart_142 : decode cX11_restart 142 = .ok (.getfield 67, 3) := by decide +kernel
theorem dX11_restart_145 : decode cX11_restart 145 = .ok (.iload_n 1, 1) := by decide +kernel
theorem dX11_restart_146 : decode cX11_restart 146 = .ok (.iaload, 1) := by decide +kernel
theorem dX11_restart_147 : decode cX11_restart 147 = .ok (.ireturn, 1) := by decide +kernel
theorem dX11_isMessage_0 : decode cX11_isMessage 0 = .ok (.iload_n 1, 1) := by decide +kernel
theorem dX11_isMessage_1 : decode cX11_isMessage 1 = .ok (.ifCond .lt 24, 3) := by decide +kernel
theorem dX11_isMessage_4 : decode cX11_isMessage 4 = .ok (.iload_n 1, 1) := by decide +kernel
theorem dX11_isMessage_5 : decode cX11_isMessage 5 = .ok (.aload_n 0, 1) := by decide +kernel
theorem dX11_isMessage_6 : decode cX11_isMessage 6 = .ok (.getfield 166, 3) := by decide +kernel
theorem dX11_isMessage_9 : decode cX11_isMessage 9 = .ok (.if_icmp .ge 16, 3) := by decide +kernel
theorem dX11_isMessage_12 : decode cX11_isMessage 12 = .ok (.aload_n 0, 1) := by decide +kernel
theorem dX11_isMessage_13 : decode cX11_isMessage 13 = .ok (.getfield 103, 3) := by decide +kernel
theorem dX11_isMessage_16 : decode cX11_isMessage 16 = .ok (.iload_n 1, 1) := by decide +kernel
theorem dX11_isMessage_17 : decode cX11_isMessage 17 = .ok (.baload, 1) := by decide +kernel
theorem dX11_isMessage_18 : decode cX11_isMessage 18 = .ok (.ifCond .eq 7, 3) := by decide +kernel
theorem dX11_isMessage_21 : decode cX11_isMessage 21 = .ok (.iconst 1, 1) := by decide +kernel
theorem dX11_isMessage_22 : decode cX11_isMessage 22 = .ok (.goto 4, 3) := by decide +kernel
theorem dX11_isMessage_25 : decode cX11_isMessage 25 = .ok (.iconst 0, 1) := by decide +kernel
theorem dX11_isMessage_26 : decode cX11_isMessage 26 = .ok (.ireturn, 1) := by decide +kernel
set_option maxRecDepth 20000 in
theorem ggX11_sendGrant_X11_send : GoodIn wsX11_sendGrant wsX11_send := goodIn_r _ [12, 1, 6, 13, 14, 15, 16, 17, 18, 19, 20, 21, 22, 23, 24, 25, 26, 27, 28, 29, 30, 31, 32, 33, 34, 35, 36, 37, 38, 39, 40, 41, 42, 43, 44, 45, 46, 47] (by decide +kernel) (by decide +kernel)
set_option maxRecDepth 20000 in
theorem gX11_sendGrant_X11_send : GoodIn wsX11_sendGrant (wsV RX11 169 RX11 yX11_send wsX11_send) := goodIn_app (goodIn_of _ (by decide +kernel)) ggX11_sendGrant_X11_send
theorem dX11_sendGrant_0 : decode cX11_sendGrant 0 = .ok (.bipush 8, 2) := by decide +kernel
theorem dX11_sendGrant_2 : decode cX11_sendGrant 2 = .ok (.iload_n 1, 1) := by decide +kernel
theorem dX11_sendGrant_3 : decode cX11_sendGrant 3 = .ok (.imul, 1) := by decide +kernel
theorem dX11_sendGrant_4 : decode cX11_sendGrant 4 = .ok (.iload_n 2, 1) := by decide +kernel
theorem dX11_sendGrant_5 : decode cX11_sendGrant 5 = .ok (.iadd, 1) := by decide +kernel
theorem dX11_sendGrant_6 : decode cX11_sendGrant 6 = .ok (.istore_n 3, 1) := by decide +kernel
theorem dX11_sendGrant_7 : decode cX11_sendGrant 7 = .ok (.aload_n 0, 1) := by decide +kernel
theorem dX11_sendGrant_8 : decode cX11_sendGrant 8 = .ok (.getfield 166, 3) := by decide +kernel
theorem dX11_sendGrant_11 : decode cX11_sendGrant 11 = .ok (.istore 4, 2) := by decide +kernel
theorem dX11_sendGrant_13 : decode cX11_sendGrant 13 = .ok (.aload_n 0, 1) := by decide +kernel
theorem dX11_sendGrant_14 : decode cX11_sendGrant 14 = .ok (.iconst 1, 1) := by decide +kernel
theorem dX11_sendGrant_15 : decode cX11_sendGrant 15 = .ok (.iload_n 1, 1) := by decide +kernel
theorem dX11_sendGrant_16 : decode cX11_sendGrant 16 = .ok (.iload_n 2, 1) := by decide +kernel
theorem dX11_sendGrant_17 : decode cX11_sendGrant 17 = .ok (.aload_n 0, 1) := by decide +kernel
theorem dX11_sendGrant_18 : decode cX11_sendGrant 18 = .ok (.getfield 51, 3) := by decide +kernel
theorem dX11_sendGrant_21 : decode cX11_sendGrant 21 = .ok (.iload_n 3, 1) := by decide +kernel
theorem dX11_sendGrant_22 : decode cX11_sendGrant 22 = .ok (.iaload, 1) := by decide +kernel
theorem dX11_sendGrant_23 : decode cX11_sendGrant 23 = .ok (.aload_n 0, 1) := by decide +kernel
theorem dX11_sendGrant_24 : decode cX11_sendGrant 24 = .ok (.getfield 42, 3) := by decide +kernel
theorem dX11_sendGrant_27 : decode cX11_sendGrant 27 = .ok (.iload_n 1, 1) := by decide +kernel
theorem dX11_sendGrant_28 : decode cX11_sendGrant 28 = .ok (.iaload, 1) := by decide +kernel
theorem dX11_sendGrant_29 : decode cX11_sendGrant 29 = .ok (.aload_n 0, 1) := by decide +kernel
theorem dX11_sendGrant_30 : decode cX11_sendGrant 30 = .ok (.getfield 45, 3) := by decide +kernel
theorem dX11_sendGrant_33 : decode cX11_sendGrant 33 = .ok (.iload_n 3, 1) := by decide +kernel
theorem dX11_sendGrant_34 : decode cX11_sendGrant 34 = .ok (.iaload, 1) := by decide +kernel
theorem dX11_sendGrant_35 : decode cX11_sendGrant 35 = .ok (.aload_n 0, 1) := by decide +kernel
theorem dX11_sendGrant_36 : decode cX11_sendGrant 36 = .ok (.getfield 48, 3) := by decide +kernel
theorem dX11_sendGrant_39 : decode cX11_sendGrant 39 = .ok (.iload_n 3, 1) := by decide +kernel
theorem dX11_sendGrant_40 : decode cX11_sendGrant 40 = .ok (.iaload, 1) := by decide +kernel
theorem dX11_sendGrant_41 : decode cX11_sendGrant 41 = .ok (.invokevirtual 169, 3) := by decide +kernel
theorem dX11_sendGrant_44 : decode cX11_sendGrant 44 = .ok (.ifCond .le 22, 3) := by decide +kernel
theorem dX11_sendGrant_47 : decode cX11_sendGrant 47 = .ok (.aload_n 0, 1) := by decide +kernel
theorem dX11_sendGrant_48 : decode cX11_sendGrant 48 = .ok (.getfield 100, 3) := by decide +kernel
theorem dX11_sendGrant_51 : decode cX11_sendGrant 51 = .ok (.bipush 8, 2) := by decide +kernel
theorem dX11_sendGrant_53 : decode cX11_sendGrant 53 = .ok (.iload 4, 2) := by decide +kernel
theorem dX11_sendGrant_55 : decode cX11_sendGrant 55 = .ok (.imul, 1) := by decide +kernel
theorem dX11_sendGrant_56 : decode cX11_sendGrant 56 = .ok (.bipush 7, 2) := by decide +kernel
theorem dX11_sendGrant_58 : decode cX11_sendGrant 58 = .ok (.iadd, 1) := by decide +kernel
theorem dX11_sendGrant_59 : decode cX11_sendGrant 59 = .ok (.aload_n 0, 1) := by decide +kernel
theorem dX11_sendGrant_60 : decode cX11_sendGrant 60 = .ok (.getfield 54, 3) := by decide +kernel
theorem dX11_sendGrant_63 : decode cX11_sendGrant 63 = .ok (.iload_n 3, 1) := by decide +kernel
theorem dX11_sendGrant_64 : decode cX11_sendGrant 64 = .ok (.iaload, 1) := by decide +kernel
theorem dX11_sendGrant_65 : decode cX11_sendGrant 65 = .ok (.iastore, 1) := by decide +kernel
theorem dX11_sendGrant_66 : decode cX11_sendGrant 66 = .ok (.return_, 1) := by decide +kernel
set_option maxRecDepth 20000 in
theorem ggX11_asks_X11_answer : GoodIn wsX11_asks wsX11_answer := goodIn_r _ [7, 8, 9, 10, 11, 12, 2, 13, 14, 15, 16, 17, 18, 19, 20, 21, 22, 23, 6, 24, 25, 37, 38, 39, 40, 41, 42, 43, 44, 45, 46, 47, 48, 49, 50, 51, 52, 53, 54, 55, 56, 57, 58, 59, 60, 61, 62, 63, 64, 65, 66, 67, 68, 69, 70] (by decide +kernel) (by decide +kernel)
set_option maxRecDepth 20000 in
theorem gX11_asks_X11_answer : GoodIn wsX11_asks (wsV RX11 176 RX11 yX11_answer wsX11_answer) := goodIn_app (goodIn_of _ (by decide +kernel)) ggX11_asks_X11_answer
set_option maxRecDepth 20000 in
theorem ggX11_asks_X11_sendGrant : GoodIn wsX11_asks wsX11_sendGrant := goodIn_r _ [29, 30, 13, 1, 2, 16, 31, 14, 32, 33, 34, 6, 35, 36, 37, 38, 39, 40, 41, 42, 43, 44, 45, 46, 47, 48, 49, 50, 51, 52, 53, 54, 55, 56, 57, 58, 59, 60, 61, 62, 63, 64, 65, 66, 67, 68, 69, 70] (by decide +kernel) (by decide +kernel)
set_option maxRecDepth 20000 in
theorem gX11_asks_X11_sendGrant : GoodIn wsX11_asks (wsV RX11 180 RX11 yX11_sendGrant wsX11_sendGrant) := goodIn_app (goodIn_of _ (by decide +kernel)) ggX11_asks_X11_sendGrant
theorem dX11_asks_0 : decode cX11_asks 0 = .ok (.iload 4, 2) := by decide +kernel
theorem dX11_asks_2 : decode cX11_asks 2 = .ok (.aload_n 0, 1) := by decide +kernel
theorem dX11_asks_3 : decode cX11_asks 3 = .ok (.getfield 42, 3) := by decide +kernel
theorem dX11_asks_6 : decode cX11_asks 6 = .ok (.iload_n 1, 1) := by decide +kernel
theorem dX11_asks_7 : decode cX11_asks 7 = .ok (.iaload, 1) := by decide +kernel
theorem dX11_asks_8 : decode cX11_asks 8 = .ok (.if_icmp .ge 5, 3) := by decide +kernel
theorem dX11_asks_11 : decode cX11_asks 11 = .ok (.iconst 0, 1) := by decide +kernel
theorem dX11_asks_12 : decode cX11_asks 12 = .ok (.ireturn, 1) := by decide +kernel
theorem dX11_asks_13 : decode cX11_asks 13 = .ok (.iload 4, 2) := by decide +kernel
theorem dX11_asks_15 : decode cX11_asks 15 = .ok (.aload_n 0, 1) := by decide +kernel
theorem dX11_asks_16 : decode cX11_asks 16 = .ok (.getfield 42, 3) := by decide +kernel
theorem dX11_asks_19 : decode cX11_asks 19 = .ok (.iload_n 1, 1) := by decide +kernel
theorem dX11_asks_20 : decode cX11_asks 20 = .ok (.iaload, 1) := by decide +kernel
theorem dX11_asks_21 : decode cX11_asks 21 = .ok (.if_icmp .le 43, 3) := by decide +kernel
theorem dX11_asks_24 : decode cX11_asks 24 = .ok (.aload_n 0, 1) := by decide +kernel
theorem dX11_asks_25 : decode cX11_asks 25 = .ok (.getfield 42, 3) := by decide +kernel
theorem dX11_asks_28 : decode cX11_asks 28 = .ok (.iload_n 1, 1) := by decide +kernel
theorem dX11_asks_29 : decode cX11_asks 29 = .ok (.iload 4, 2) := by decide +kernel
theorem dX11_asks_31 : decode cX11_asks 31 = .ok (.iastore, 1) := by decide +kernel
theorem dX11_asks_32 : decode cX11_asks 32 = .ok (.bipush 8, 2) := by decide +kernel
theorem dX11_asks_34 : decode cX11_asks 34 = .ok (.iload_n 1, 1) := by decide +kernel
theorem dX11_asks_35 : decode cX11_asks 35 = .ok (.imul, 1) := by decide +kernel
theorem dX11_asks_36 : decode cX11_asks 36 = .ok (.istore 6, 2) := by decide +kernel
theorem dX11_asks_38 : decode cX11_asks 38 = .ok (.iload 6, 2) := by decide +kernel
theorem dX11_asks_40 : decode cX11_asks 40 = .ok (.bipush 8, 2) := by decide +kernel
theorem dX11_asks_42 : decode cX11_asks 42 = .ok (.iload_n 1, 1) := by decide +kernel
theorem dX11_asks_43 : decode cX11_asks 43 = .ok (.imul, 1) := by decide +kernel
theorem dX11_asks_44 : decode cX11_asks 44 = .ok (.bipush 8, 2) := by decide +kernel
theorem dX11_asks_46 : decode cX11_asks 46 = .ok (.iadd, 1) := by decide +kernel
theorem dX11_asks_47 : decode cX11_asks 47 = .ok (.if_icmp .ge 17, 3) := by decide +kernel
theorem dX11_asks_50 : decode cX11_asks 50 = .ok (.aload_n 0, 1) := by decide +kernel
theorem dX11_asks_51 : decode cX11_asks 51 = .ok (.getfield 45, 3) := by decide +kernel
theorem dX11_asks_54 : decode cX11_asks 54 = .ok (.iload 6, 2) := by decide +kernel
theorem dX11_asks_56 : decode cX11_asks 56 = .ok (.iconst (-1), 1) := by decide +kernel
theorem dX11_asks_57 : decode cX11_asks 57 = .ok (.iastore, 1) := by decide +kernel
theorem dX11_asks_58 : decode cX11_asks 58 = .ok (.iinc 6 1, 3) := by decide +kernel
theorem dX11_asks_61 : decode cX11_asks 61 = .ok (.goto (-23), 3) := by decide +kernel
theorem dX11_asks_64 : decode cX11_asks 64 = .ok (.bipush 8, 2) := by decide +kernel
theorem dX11_asks_66 : decode cX11_asks 66 = .ok (.iload_n 1, 1) := by decide +kernel
theorem dX11_asks_67 : decode cX11_asks 67 = .ok (.imul, 1) := by decide +kernel
theorem dX11_asks_68 : decode cX11_asks 68 = .ok (.iload_n 2, 1) := by decide +kernel
theorem dX11_asks_69 : decode cX11_asks 69 = .ok (.iadd, 1) := by decide +kernel
theorem dX11_asks_70 : decode cX11_asks 70 = .ok (.istore 6, 2) := by decide +kernel
theorem dX11_asks_72 : decode cX11_asks 72 = .ok (.iload 5, 2) := by decide +kernel
theorem dX11_asks_74 : decode cX11_asks 74 = .ok (.aload_n 0, 1) := by decide +kernel
theorem dX11_asks_75 : decode cX11_asks 75 = .ok (.getfield 45, 3) := by decide +kernel
theorem dX11_asks_78 : decode cX11_asks 78 = .ok (.iload 6, 2) := by decide +kernel
theorem dX11_asks_80 : decode cX11_asks 80 = .ok (.iaload, 1) := by decide +kernel
theorem dX11_asks_81 : decode cX11_asks 81 = .ok (.if_icmp .ge 5, 3) := by decide +kernel
theorem dX11_asks_84 : decode cX11_asks 84 = .ok (.iconst 0, 1) := by decide +kernel
theorem dX11_asks_85 : decode cX11_asks 85 = .ok (.ireturn, 1) := by decide +kernel
theorem dX11_asks_86 : decode cX11_asks 86 = .ok (.iload 5, 2) := by decide +kernel
theorem dX11_asks_88 : decode cX11_asks 88 = .ok (.aload_n 0, 1) := by decide +kernel
theorem dX11_asks_89 : decode cX11_asks 89 = .ok (.getfield 45, 3) := by decide +kernel
theorem dX11_asks_92 : decode cX11_asks 92 = .ok (.iload 6, 2) := by decide +kernel
theorem dX11_asks_94 : decode cX11_asks 94 = .ok (.iaload, 1) := by decide +kernel
theorem dX11_asks_95 : decode cX11_asks 95 = .ok (.if_icmp .le 12, 3) := by decide +kernel
theorem dX11_asks_98 : decode cX11_asks 98 = .ok (.aload_n 0, 1) := by decide +kernel
theorem dX11_asks_99 : decode cX11_asks 99 = .ok (.iload_n 1, 1) := by decide +kernel
theorem dX11_asks_100 : decode cX11_asks 100 = .ok (.iload_n 2, 1) := by decide +kernel
theorem dX11_asks_101 : decode cX11_asks 101 = .ok (.iload_n 3, 1) := by decide +kernel
theorem dX11_asks_102 : decode cX11_asks 102 = .ok (.iload 5, 2) := by decide +kernel
theorem dX11_asks_104 : decode cX11_asks 104 = .ok (.invokevirtual 176, 3) := by decide +kernel
theorem dX11_asks_107 : decode cX11_asks 107 = .ok (.aload_n 0, 1) := by decide +kernel
theorem dX11_asks_108 : decode cX11_asks 108 = .ok (.iload_n 1, 1) := by decide +kernel
theorem dX11_asks_109 : decode cX11_asks 109 = .ok (.iload_n 2, 1) := by decide +kernel
theorem dX11_asks_110 : decode cX11_asks 110 = .ok (.invokevirtual 180, 3) := by decide +kernel
theorem dX11_asks_113 : decode cX11_asks 113 = .ok (.iconst 1, 1) := by decide +kernel
theorem dX11_asks_114 : decode cX11_asks 114 = .ok (.ireturn, 1) := by decide +kernel
set_option maxRecDepth 20000 in
theorem ggX11_answer_X11_clockOf : GoodIn wsX11_answer wsX11_clockOf := goodIn_r _ [19, 20, 4, 21, 22, 23, 24, 25, 26, 27, 28, 29, 30, 31, 32, 33, 34, 35, 36, 37, 38, 39, 40, 41, 42, 43, 44, 45, 46, 47, 48, 49, 50, 51, 52, 53, 54] (by decide +kernel) (by decide +kernel)
set_option maxRecDepth 20000 in
theorem gX11_answer_X11_clockOf : GoodIn wsX11_answer (wsV RX11 139 RX11 yX11_clockOf wsX11_clockOf) := goodIn_app (goodIn_of _ (by decide +kernel)) ggX11_answer_X11_clockOf
theorem dX11_answer_0 : decode cX11_answer 0 = .ok (.bipush 8, 2) := by decide +kernel
theorem dX11_answer_2 : decode cX11_answer 2 = .ok (.iload_n 1, 1) := by decide +kernel
theorem dX11_answer_3 : decode cX11_answer 3 = .ok (.imul, 1) := by decide +kernel
theorem dX11_answer_4 : decode cX11_answer 4 = .ok (.iload_n 2, 1) := by decide +kernel
theorem dX11_answer_5 : decode cX11_answer 5 = .ok (.iadd, 1) := by decide +kernel
theorem dX11_answer_6 : decode cX11_answer 6 = .ok (.istore 5, 2) := by decide +kernel
theorem dX11_answer_8 : decode cX11_answer 8 = .ok (.aload_n 0, 1) := by decide +kernel
theorem dX11_answer_9 : decode cX11_answer 9 = .ok (.bipush 6, 2) := by decide +kernel
theorem dX11_answer_11 : decode cX11_answer 11 = .ok (.invokevirtual 139, 3) := by decide +kernel
theorem dX11_answer_14 : decode cX11_answer 14 = .ok (.istore 6, 2) := by decide +kernel
theorem dX11_answer_16 : decode cX11_answer 16 = .ok (.aload_n 0, 1) := by decide +kernel
theorem dX11_answer_17 : decode cX11_answer 17 = .ok (.getfield 57, 3) := by decide +kernel
theorem dX11_answer_20 : decode cX11_answer 20 = .ok (.iload 5, 2) := by decide +kernel
theorem dX11_answer_22 : decode cX11_answer 22 = .ok (.iconst 1, 1) := by decide +kernel
theorem dX11_answer_23 : decode cX11_answer 23 = .ok (.bastore, 1) := by decide +kernel
theorem dX11_answer_24 : decode cX11_answer 24 = .ok (.aload_n 0, 1) := by decide +kernel
theorem dX11_answer_25 : decode cX11_answer 25 = .ok (.getfield 61, 3) := by decide +kernel
theorem dX11_answer_28 : decode cX11_answer 28 = .ok (.iload 5, 2) := by decide +kernel
theorem dX11_answer_30 : decode cX11_answer 30 = .ok (.iload 6, 2) := by decide +kernel
theorem dX11_answer_32 : decode cX11_answer 32 = .ok (.iastore, 1) := by decide +kernel
theorem dX11_answer_33 : decode cX11_answer 33 = .ok (.aload_n 0, 1) := by decide +kernel
theorem dX11_answer_34 : decode cX11_answer 34 = .ok (.getfield 23, 3) := by decide +kernel
theorem dX11_answer_37 : decode cX11_answer 37 = .ok (.iload_n 2, 1) := by decide +kernel
theorem dX11_answer_38 : decode cX11_answer 38 = .ok (.laload, 1) := by decide +kernel
theorem dX11_answer_39 : decode cX11_answer 39 = .ok (.ldc2_w 109, 3) := by decide +kernel
theorem dX11_answer_42 : decode cX11_answer 42 = .ok (.ldiv, 1) := by decide +kernel
theorem dX11_answer_43 : decode cX11_answer 43 = .ok (.l2i, 1) := by decide +kernel
theorem dX11_answer_44 : decode cX11_answer 44 = .ok (.istore 7, 2) := by decide +kernel
theorem dX11_answer_46 : decode cX11_answer 46 = .ok (.iload_n 3, 1) := by decide +kernel
theorem dX11_answer_47 : decode cX11_answer 47 = .ok (.istore 8, 2) := by decide +kernel
theorem dX11_answer_49 : decode cX11_answer 49 = .ok (.iload 7, 2) := by decide +kernel
theorem dX11_answer_51 : decode cX11_answer 51 = .ok (.iload_n 3, 1) := by decide +kernel
theorem dX11_answer_52 : decode cX11_answer 52 = .ok (.if_icmp .ge 103, 3) := by decide +kernel
theorem dX11_answer_55 : decode cX11_answer 55 = .ok (.iconst 0, 1) := by decide +kernel
theorem dX11_answer_56 : decode cX11_answer 56 = .ok (.istore 9, 2) := by decide +kernel
theorem dX11_answer_58 : decode cX11_answer 58 = .ok (.iconst 0, 1) := by decide +kernel
theorem dX11_answer_59 : decode cX11_answer 59 = .ok (.istore 10, 2) := by decide +kernel
theorem dX11_answer_61 : decode cX11_answer 61 = .ok (.iload 10, 2) := by decide +kernel
theorem dX11_answer_63 : decode cX11_answer 63 = .ok (.bipush 6, 2) := by decide +kernel
theorem dX11_answer_65 : decode cX11_answer 65 = .ok (.if_icmp .ge 61, 3) := by decide +kernel
theorem dX11_answer_68 : decode cX11_answer 68 = .ok (.bipush 8, 2) := by decide +kernel
theorem dX11_answer_70 : decode cX11_answer 70 = .ok (.iload 10, 2) := by decide +kernel
theorem dX11_answer_72 : decode cX11_answer 72 = .ok (.imul, 1) := by decide +kernel
theorem dX11_answer_73 : decode cX11_answer 73 = .ok (.iload_n 2, 1) := by decide +kernel
theorem dX11_answer_74 : decode cX11_answer 74 = .ok (.iadd, 1) := by decide +kernel
theorem dX11_answer_75 : decode cX11_answer 75 = .ok (.istore 11, 2) := by decide +kernel
theorem dX11_answer_77 : decode cX11_answer 77 = .ok (.aload_n 0, 1) := by decide +kernel
theorem dX11_answer_78 : decode cX11_answer 78 = .ok (.getfield 57, 3) := by decide +kernel
theorem dX11_answer_81 : decode cX11_answer 81 = .ok (.iload 11, 2) := by decide +kernel
theorem dX11_answer_83 : decode cX11_answer 83 = .ok (.baload, 1) := by decide +kernel
theorem dX11_answer_84 : decode cX11_answer 84 = .ok (.ifCond .eq 32, 3) := by decide +kernel
theorem dX11_answer_87 : decode cX11_answer 87 = .ok (.iload 6, 2) := by decide +kernel
theorem dX11_answer_89 : decode cX11_answer 89 = .ok (.aload_n 0, 1) := by decide +kernel
theorem dX11_answer_90 : decode cX11_answer 90 = .ok (.getfield 61, 3) := by decide +kernel
theorem dX11_answer_93 : decode cX11_answer 93 = .ok (.iload 11, 2) := by decide +kernel
theorem dX11_answer_95 : decode cX11_answer 95 = .ok (.iaload, 1) := by decide +kernel
theorem dX11_answer_96 : decode cX11_answer 96 = .ok (.isub, 1) := by decide +kernel
theorem dX11_answer_97 : decode cX11_answer 97 = .ok (.sipush 1000, 3) := by decide +kernel
theorem dX11_answer_100 : decode cX11_answer 100 = .ok (.if_icmp .ge 16, 3) := by decide +kernel
theorem dX11_answer_103 : decode cX11_answer 103 = .ok (.iload 9, 2) := by decide +kernel
theorem dX11_answer_105 : decode cX11_answer 105 = .ok (.aload_n 0, 1) := by decide +kernel
theorem dX11_answer_106 : decode cX11_answer 106 = .ok (.getfield 64, 3) := by decide +kernel
theorem dX11_answer_109 : decode cX11_answer 109 = .ok (.iload 11, 2) := by decide +kernel
theorem dX11_answer_111 : decode cX11_answer 111 = .ok (.iaload, 1) := by decide +kernel
theorem dX11_answer_112 : decode cX11_answer 112 = .ok (.iadd, 1) := by decide +kernel
theorem dX11_answer_113 : decode cX11_answer 113 = .ok (.goto 5, 3) := by decide +kernel
theorem dX11_answer_116 : decode cX11_answer 116 = .ok (.iload 9, 2) := by decide +kernel
theorem dX11_answer_118 : decode cX11_answer 118 = .ok (.istore 9, 2) := by decide +kernel
theorem dX11_answer_120 : decode cX11_answer 120 = .ok (.iinc 10 1, 3) := by decide +kernel
theorem dX11_answer_123 : decode cX11_answer 123 = .ok (.goto (-62), 3) := by decide +kernel
theorem dX11_answer_126 : decode cX11_answer 126 = .ok (.iload 7, 2) := by decide +kernel
theorem dX11_answer_128 : decode cX11_answer 128 = .ok (.aload_n 0, 1) := by decide +kernel
theorem dX11_answer_129 : decode cX11_answer 129 = .ok (.getfield 64, 3) := by decide +kernel
theorem dX11_answer_132 : decode cX11_answer 132 = .ok (.iload 5, 2) := by decide +kernel
theorem dX11_answer_134 : decode cX11_answer 134 = .ok (.iaload, 1) := by decide +kernel
theorem dX11_answer_135 : decode cX11_answer 135 = .ok (.imul, 1) := by decide +kernel
theorem dX11_answer_136 : decode cX11_answer 136 = .ok (.iload 9, 2) := by decide +kernel
theorem dX11_answer_138 : decode cX11_answer 138 = .ok (.idiv, 1) := by decide +kernel
theorem dX11_answer_139 : decode cX11_answer 139 = .ok (.istore 8, 2) := by decide +kernel
theorem dX11_answer_141 : decode cX11_answer 141 = .ok (.iload 8, 2) := by decide +kernel
theorem dX11_answer_143 : decode cX11_answer 143 = .ok (.iload_n 3, 1) := by decide +kernel
theorem dX11_answer_144 : decode cX11_answer 144 = .ok (.if_icmp .ge 8, 3) := by decide +kernel
theorem dX11_answer_147 : decode cX11_answer 147 = .ok (.iload 8, 2) := by decide +kernel
theorem dX11_answer_149 : decode cX11_answer 149 = .ok (.goto 4, 3) := by decide +kernel
theorem dX11_answer_152 : decode cX11_answer 152 = .ok (.iload_n 3, 1) := by decide +kernel
theorem dX11_answer_153 : decode cX11_answer 153 = .ok (.istore 8, 2) := by decide +kernel
theorem dX11_answer_155 : decode cX11_answer 155 = .ok (.aload_n 0, 1) := by decide +kernel
theorem dX11_answer_156 : decode cX11_answer 156 = .ok (.getfield 23, 3) := by decide +kernel
theorem dX11_answer_159 : decode cX11_answer 159 = .ok (.iload_n 2, 1) := by decide +kernel
theorem dX11_answer_160 : decode cX11_answer 160 = .ok (.aload_n 0, 1) := by decide +kernel
theorem dX11_answer_161 : decode cX11_answer 161 = .ok (.getfield 23, 3) := by decide +kernel
theorem dX11_answer_164 : decode cX11_answer 164 = .ok (.iload_n 2, 1) := by decide +kernel
theorem dX11_answer_165 : decode cX11_answer 165 = .ok (.laload, 1) := by decide +kernel
theorem dX11_answer_166 : decode cX11_answer 166 = .ok (.ldc2_w 109, 3) := by decide +kernel
theorem dX11_answer_169 : decode cX11_answer 169 = .ok (.iload 8, 2) := by decide +kernel
theorem dX11_answer_171 : decode cX11_answer 171 = .ok (.i2l, 1) := by decide +kernel
theorem dX11_answer_172 : decode cX11_answer 172 = .ok (.lmul, 1) := by decide +kernel
theorem dX11_answer_173 : decode cX11_answer 173 = .ok (.lsub, 1) := by decide +kernel
theorem dX11_answer_174 : decode cX11_answer 174 = .ok (.lastore, 1) := by decide +kernel
theorem dX11_answer_175 : decode cX11_answer 175 = .ok (.aload_n 0, 1) := by decide +kernel
theorem dX11_answer_176 : decode cX11_answer 176 = .ok (.getfield 45, 3) := by decide +kernel
theorem dX11_answer_179 : decode cX11_answer 179 = .ok (.iload 5, 2) := by decide +kernel
theorem dX11_answer_181 : decode cX11_answer 181 = .ok (.iload 4, 2) := by decide +kernel
theorem dX11_answer_183 : decode cX11_answer 183 = .ok (.iastore, 1) := by decide +kernel
theorem dX11_answer_184 : decode cX11_answer 184 = .ok (.aload_n 0, 1) := by decide +kernel
theorem dX11_answer_185 : decode cX11_answer 185 = .ok (.getfield 51, 3) := by decide +kernel
theorem dX11_answer_188 : decode cX11_answer 188 = .ok (.iload 5, 2) := by decide +kernel
theorem dX11_answer_190 : decode cX11_answer 190 = .ok (.iload 8, 2) := by decide +kernel
theorem dX11_answer_192 : decode cX11_answer 192 = .ok (.iastore, 1) := by decide +kernel
theorem dX11_answer_193 : decode cX11_answer 193 = .ok (.aload_n 0, 1) := by decide +kernel
theorem dX11_answer_194 : decode cX11_answer 194 = .ok (.getfield 54, 3) := by decide +kernel
theorem dX11_answer_197 : decode cX11_answer 197 = .ok (.iload 5, 2) := by decide +kernel
theorem dX11_answer_199 : decode cX11_answer 199 = .ok (.aload_n 0, 1) := by decide +kernel
theorem dX11_answer_200 : decode cX11_answer 200 = .ok (.getfield 38, 3) := by decide +kernel
theorem dX11_answer_203 : decode cX11_answer 203 = .ok (.iastore, 1) := by decide +kernel
theorem dX11_answer_204 : decode cX11_answer 204 = .ok (.aload_n 0, 1) := by decide +kernel
theorem dX11_answer_205 : decode cX11_answer 205 = .ok (.getfield 48, 3) := by decide +kernel
theorem dX11_answer_208 : decode cX11_answer 208 = .ok (.iload 5, 2) := by decide +kernel
theorem dX11_answer_210 : decode cX11_answer 210 = .ok (.iconst (-1), 1) := by decide +kernel
theorem dX11_answer_211 : decode cX11_answer 211 = .ok (.iastore, 1) := by decide +kernel
theorem dX11_answer_212 : decode cX11_answer 212 = .ok (.iload 8, 2) := by decide +kernel
theorem dX11_answer_214 : decode cX11_answer 214 = .ok (.ifCond .le 61, 3) := by decide +kernel
theorem dX11_answer_217 : decode cX11_answer 217 = .ok (.aload_n 0, 1) := by decide +kernel
theorem dX11_answer_218 : decode cX11_answer 218 = .ok (.getfield 48, 3) := by decide +kernel
theorem dX11_answer_221 : decode cX11_answer 221 = .ok (.iload 5, 2) := by decide +kernel
theorem dX11_answer_223 : decode cX11_answer 223 = .ok (.aload_n 0, 1) := by decide +kernel
theorem dX11_answer_224 : decode cX11_answer 224 = .ok (.getfield 111, 3) := by decide +kernel
theorem dX11_answer_227 : decode cX11_answer 227 = .ok (.iastore, 1) := by decide +kernel
theorem dX11_answer_228 : decode cX11_answer 228 = .ok (.aload_n 0, 1) := by decide +kernel
theorem dX11_answer_229 : decode cX11_answer 229 = .ok (.getfield 29, 3) := by decide +kernel
theorem dX11_answer_232 : decode cX11_answer 232 = .ok (.aload_n 0, 1) := by decide +kernel
theorem dX11_answer_233 : decode cX11_answer 233 = .ok (.getfield 111, 3) := by decide +kernel
theorem dX11_answer_236 : decode cX11_answer 236 = .ok (.iload_n 2, 1) := by decide +kernel
theorem dX11_answer_237 : decode cX11_answer 237 = .ok (.iastore, 1) := by decide +kernel
theorem dX11_answer_238 : decode cX11_answer 238 = .ok (.aload_n 0, 1) := by decide +kernel
theorem dX11_answer_239 : decode cX11_answer 239 = .ok (.getfield 32, 3) := by decide +kernel
theorem dX11_answer_242 : decode cX11_answer 242 = .ok (.aload_n 0, 1) := by decide +kernel
theorem dX11_answer_243 : decode cX11_answer 243 = .ok (.getfield 111, 3) := by decide +kernel
theorem dX11_answer_246 : decode cX11_answer 246 = .ok (.iload 8, 2) := by decide +kernel
theorem dX11_answer_248 : decode cX11_answer 248 = .ok (.iastore, 1) := by decide +kernel
theorem dX11_answer_249 : decode cX11_answer 249 = .ok (.aload_n 0, 1) := by decide +kernel
theorem dX11_answer_250 : decode cX11_answer 250 = .ok (.getfield 35, 3) := by decide +kernel
theorem dX11_answer_253 : decode cX11_answer 253 = .ok (.aload_n 0, 1) := by decide +kernel
theorem dX11_answer_254 : decode cX11_answer 254 = .ok (.getfield 111, 3) := by decide +kernel
theorem dX11_answer_257 : decode cX11_answer 257 = .ok (.iload 6, 2) := by decide +kernel
theorem dX11_answer_259 : decode cX11_answer 259 = .ok (.aload_n 0, 1) := by decide +kernel
theorem dX11_answer_260 : decode cX11_answer 260 = .ok (.getfield 38, 3) := by decide +kernel
theorem dX11_answer_263 : decode cX11_answer 263 = .ok (.iadd, 1) := by decide +kernel
theorem dX11_answer_264 : decode cX11_answer 264 = .ok (.iastore, 1) := by decide +kernel
theorem dX11_answer_265 : decode cX11_answer 265 = .ok (.aload_n 0, 1) := by decide +kernel
theorem dX11_answer_266 : decode cX11_answer 266 = .ok (.dup, 1) := by decide +kernel
theorem dX11_answer_267 : decode cX11_answer 267 = .ok (.getfield 111, 3) := by decide +kernel
theorem dX11_answer_270 : decode cX11_answer 270 = .ok (.iconst 1, 1) := by decide +kernel
theorem dX11_answer_271 : decode cX11_answer 271 = .ok (.iadd, 1) := by decide +kernel
theorem dX11_answer_272 : decode cX11_answer 272 = .ok (.putfield 111, 3) := by decide +kernel
theorem dX11_answer_275 : decode cX11_answer 275 = .ok (.return_, 1) := by decide +kernel
set_option maxRecDepth 20000 in
theorem ggX11_returns_X11_fill : GoodIn wsX11_returns wsX11_fill := goodIn_r _ [10, 5, 11, 4, 12, 13, 14, 9, 15, 16, 3, 2, 17, 18, 19, 20, 21, 22, 23, 24, 25, 26, 27, 28, 29, 30, 31, 32, 33, 34, 35, 36, 37, 38, 39, 40, 41, 42, 43, 44, 45, 46, 47, 48, 49, 50] (by decide +kernel) (by decide +kernel)
set_option maxRecDepth 20000 in
theorem gX11_returns_X11_fill : GoodIn wsX11_returns (wsV RX11 128 RX11 yX11_fill wsX11_fill) := goodIn_app (goodIn_of _ (by decide +kernel)) ggX11_returns_X11_fill
theorem dX11_returns_0 : decode cX11_returns 0 = .ok (.iload_n 3, 1) := by decide +kernel
theorem dX11_returns_1 : decode cX11_returns 1 = .ok (.aload_n 0, 1) := by decide +kernel
theorem dX11_returns_2 : decode cX11_returns 2 = .ok (.getfield 42, 3) := by decide +kernel
theorem dX11_returns_5 : decode cX11_returns 5 = .ok (.iload_n 1, 1) := by decide +kernel
theorem dX11_returns_6 : decode cX11_returns 6 = .ok (.iaload, 1) := by decide +kernel
theorem dX11_returns_7 : decode cX11_returns 7 = .ok (.if_icmp .lt 13, 3) := by decide +kernel
theorem dX11_returns_10 : decode cX11_returns 10 = .ok (.aload_n 0, 1) := by decide +kernel
theorem dX11_returns_11 : decode cX11_returns 11 = .ok (.getfield 32, 3) := by decide +kernel
theorem dX11_returns_14 : decode cX11_returns 14 = .ok (.iload 4, 2) := by decide +kernel
theorem dX11_returns_16 : decode cX11_returns 16 = .ok (.iaload, 1) := by decide +kernel
theorem dX11_returns_17 : decode cX11_returns 17 = .ok (.ifCond .ne 5, 3) := by decide +kernel
theorem dX11_returns_20 : decode cX11_returns 20 = .ok (.iconst 0, 1) := by decide +kernel
theorem dX11_returns_21 : decode cX11_returns 21 = .ok (.ireturn, 1) := by decide +kernel
theorem dX11_returns_22 : decode cX11_returns 22 = .ok (.aload_n 0, 1) := by decide +kernel
theorem dX11_returns_23 : decode cX11_returns 23 = .ok (.getfield 29, 3) := by decide +kernel
theorem dX11_returns_26 : decode cX11_returns 26 = .ok (.iload 4, 2) := by decide +kernel
theorem dX11_returns_28 : decode cX11_returns 28 = .ok (.iaload, 1) := by decide +kernel
theorem dX11_returns_29 : decode cX11_returns 29 = .ok (.istore 5, 2) := by decide +kernel
theorem dX11_returns_31 : decode cX11_returns 31 = .ok (.aload_n 0, 1) := by decide +kernel
theorem dX11_returns_32 : decode cX11_returns 32 = .ok (.getfield 32, 3) := by decide +kernel
theorem dX11_returns_35 : decode cX11_returns 35 = .ok (.iload 4, 2) := by decide +kernel
theorem dX11_returns_37 : decode cX11_returns 37 = .ok (.iconst 0, 1) := by decide +kernel
theorem dX11_returns_38 : decode cX11_returns 38 = .ok (.iastore, 1) := by decide +kernel
theorem dX11_returns_39 : decode cX11_returns 39 = .ok (.aload_n 0, 1) := by decide +kernel
theorem dX11_returns_40 : decode cX11_returns 40 = .ok (.iload 5, 2) := by decide +kernel
theorem dX11_returns_42 : decode cX11_returns 42 = .ok (.aload_n 0, 1) := by decide +kernel
theorem dX11_returns_43 : decode cX11_returns 43 = .ok (.getfield 23, 3) := by decide +kernel
theorem dX11_returns_46 : decode cX11_returns 46 = .ok (.iload 5, 2) := by decide +kernel
theorem dX11_returns_48 : decode cX11_returns 48 = .ok (.laload, 1) := by decide +kernel
theorem dX11_returns_49 : decode cX11_returns 49 = .ok (.ldc2_w 109, 3) := by decide +kernel
theorem dX11_returns_52 : decode cX11_returns 52 = .ok (.iload_n 2, 1) := by decide +kernel
theorem dX11_returns_53 : decode cX11_returns 53 = .ok (.i2l, 1) := by decide +kernel
theorem dX11_returns_54 : decode cX11_returns 54 = .ok (.lmul, 1) := by decide +kernel
theorem dX11_returns_55 : decode cX11_returns 55 = .ok (.ladd, 1) := by decide +kernel
theorem dX11_returns_56 : decode cX11_returns 56 = .ok (.invokevirtual 128, 3) := by decide +kernel
theorem dX11_returns_59 : decode cX11_returns 59 = .ok (.iconst 1, 1) := by decide +kernel
theorem dX11_returns_60 : decode cX11_returns 60 = .ok (.ireturn, 1) := by decide +kernel
theorem dX11_arrives_0 : decode cX11_arrives 0 = .ok (.aload_n 0, 1) := by decide +kernel
theorem dX11_arrives_1 : decode cX11_arrives 1 = .ok (.getfield 100, 3) := by decide +kernel
theorem dX11_arrives_4 : decode cX11_arrives 4 = .ok (.iload_n 1, 1) := by decide +kernel
theorem dX11_arrives_5 : decode cX11_arrives 5 = .ok (.iconst 1, 1) := by decide +kernel
theorem dX11_arrives_6 : decode cX11_arrives 6 = .ok (.iadd, 1) := by decide +kernel
theorem dX11_arrives_7 : decode cX11_arrives 7 = .ok (.iaload, 1) := by decide +kernel
theorem dX11_arrives_8 : decode cX11_arrives 8 = .ok (.istore_n 2, 1) := by decide +kernel
theorem dX11_arrives_9 : decode cX11_arrives 9 = .ok (.bipush 8, 2) := by decide +kernel
theorem dX11_arrives_11 : decode cX11_arrives 11 = .ok (.iload_n 2, 1) := by decide +kernel
theorem dX11_arrives_12 : decode cX11_arrives 12 = .ok (.imul, 1) := by decide +kernel
theorem dX11_arrives_13 : decode cX11_arrives 13 = .ok (.aload_n 0, 1) := by decide +kernel
theorem dX11_arrives_14 : decode cX11_arrives 14 = .ok (.getfield 100, 3) := by decide +kernel
theorem dX11_arrives_17 : decode cX11_arrives 17 = .ok (.iload_n 1, 1) := by decide +kernel
theorem dX11_arrives_18 : decode cX11_arrives 18 = .ok (.iconst 2, 1) := by decide +kernel
theorem dX11_arrives_19 : decode cX11_arrives 19 = .ok (.iadd, 1) := by decide +kernel
theorem dX11_arrives_20 : decode cX11_arrives 20 = .ok (.iaload, 1) := by decide +kernel
theorem dX11_arrives_21 : decode cX11_arrives 21 = .ok (.iadd, 1) := by decide +kernel
theorem dX11_arrives_22 : decode cX11_arrives 22 = .ok (.istore_n 3, 1) := by decide +kernel
theorem dX11_arrives_23 : decode cX11_arrives 23 = .ok (.aload_n 0, 1) := by decide +kernel
theorem dX11_arrives_24 : decode cX11_arrives 24 = .ok (.getfield 100, 3) := by decide +kernel
theorem dX11_arrives_27 : decode cX11_arrives 27 = .ok (.iload_n 1, 1) := by decide +kernel
theorem dX11_arrives_28 : decode cX11_arrives 28 = .ok (.iconst 4, 1) := by decide +kernel
theorem dX11_arrives_29 : decode cX11_arrives 29 = .ok (.iadd, 1) := by decide +kernel
theorem dX11_arrives_30 : decode cX11_arrives 30 = .ok (.iaload, 1) := by decide +kernel
theorem dX11_arrives_31 : decode cX11_arrives 31 = .ok (.aload_n 0, 1) := by decide +kernel
theorem dX11_arrives_32 : decode cX11_arrives 32 = .ok (.getfield 67, 3) := by decide +kernel
theorem dX11_arrives_35 : decode cX11_arrives 35 = .ok (.iload_n 2, 1) := by decide +kernel
theorem dX11_arrives_36 : decode cX11_arrives 36 = .ok (.iaload, 1) := by decide +kernel
theorem dX11_arrives_37 : decode cX11_arrives 37 = .ok (.if_icmp .ne 29, 3) := by decide +kernel
theorem dX11_arrives_40 : decode cX11_arrives 40 = .ok (.aload_n 0, 1) := by decide +kernel
theorem dX11_arrives_41 : decode cX11_arrives 41 = .ok (.getfield 79, 3) := by decide +kernel
theorem dX11_arrives_44 : decode cX11_arrives 44 = .ok (.iload_n 3, 1) := by decide +kernel
theorem dX11_arrives_45 : decode cX11_arrives 45 = .ok (.baload, 1) := by decide +kernel
theorem dX11_arrives_46 : decode cX11_arrives 46 = .ok (.ifCond .eq 20, 3) := by decide +kernel
theorem dX11_arrives_49 : decode cX11_arrives 49 = .ok (.aload_n 0, 1) := by decide +kernel
theorem dX11_arrives_50 : decode cX11_arrives 50 = .ok (.getfield 100, 3) := by decide +kernel
theorem dX11_arrives_53 : decode cX11_arrives 53 = .ok (.iload_n 1, 1) := by decide +kernel
theorem dX11_arrives_54 : decode cX11_arrives 54 = .ok (.iconst 5, 1) := by decide +kernel
theorem dX11_arrives_55 : decode cX11_arrives 55 = .ok (.iadd, 1) := by decide +kernel
theorem dX11_arrives_56 : decode cX11_arrives 56 = .ok (.iaload, 1) := by decide +kernel
theorem dX11_arrives_57 : decode cX11_arrives 57 = .ok (.aload_n 0, 1) := by decide +kernel
theorem dX11_arrives_58 : decode cX11_arrives 58 = .ok (.getfield 76, 3) := by decide +kernel
theorem dX11_arrives_61 : decode cX11_arrives 61 = .ok (.iload_n 3, 1) := by decide +kernel
theorem dX11_arrives_62 : decode cX11_arrives 62 = .ok (.iaload, 1) := by decide +kernel
theorem dX11_arrives_63 : decode cX11_arrives 63 = .ok (.if_icmp .eq 5, 3) := by decide +kernel
theorem dX11_arrives_66 : decode cX11_arrives 66 = .ok (.iconst 0, 1) := by decide +kernel
theorem dX11_arrives_67 : decode cX11_arrives 67 = .ok (.ireturn, 1) := by decide +kernel
theorem dX11_arrives_68 : decode cX11_arrives 68 = .ok (.aload_n 0, 1) := by decide +kernel
theorem dX11_arrives_69 : decode cX11_arrives 69 = .ok (.getfield 79, 3) := by decide +kernel
theorem dX11_arrives_72 : decode cX11_arrives 72 = .ok (.iload_n 3, 1) := by decide +kernel
theorem dX11_arrives_73 : decode cX11_arrives 73 = .ok (.iconst 0, 1) := by decide +kernel
theorem dX11_arrives_74 : decode cX11_arrives 74 = .ok (.bastore, 1) := by decide +kernel
theorem dX11_arrives_75 : decode cX11_arrives 75 = .ok (.aload_n 0, 1) := by decide +kernel
theorem dX11_arrives_76 : decode cX11_arrives 76 = .ok (.getfield 100, 3) := by decide +kernel
theorem dX11_arrives_79 : decode cX11_arrives 79 = .ok (.iload_n 1, 1) := by decide +kernel
theorem dX11_arrives_80 : decode cX11_arrives 80 = .ok (.bipush 6, 2) := by decide +kernel
theorem dX11_arrives_82 : decode cX11_arrives 82 = .ok (.iadd, 1) := by decide +kernel
theorem dX11_arrives_83 : decode cX11_arrives 83 = .ok (.iaload, 1) := by decide +kernel
theorem dX11_arrives_84 : decode cX11_arrives 84 = .ok (.istore 4, 2) := by decide +kernel
theorem dX11_arrives_86 : decode cX11_arrives 86 = .ok (.aload_n 0, 1) := by decide +kernel
theorem dX11_arrives_87 : decode cX11_arrives 87 = .ok (.getfield 100, 3) := by decide +kernel
theorem dX11_arrives_90 : decode cX11_arrives 90 = .ok (.iload_n 1, 1) := by decide +kernel
theorem dX11_arrives_91 : decode cX11_arrives 91 = .ok (.iconst 3, 1) := by decide +kernel
theorem dX11_arrives_92 : decode cX11_arrives 92 = .ok (.iadd, 1) := by decide +kernel
theorem dX11_arrives_93 : decode cX11_arrives 93 = .ok (.iaload, 1) := by decide +kernel
theorem dX11_arrives_94 : decode cX11_arrives 94 = .ok (.ifCond .le 57, 3) := by decide +kernel
theorem dX11_arrives_97 : decode cX11_arrives 97 = .ok (.aload_n 0, 1) := by decide +kernel
theorem dX11_arrives_98 : decode cX11_arrives 98 = .ok (.getfield 88, 3) := by decide +kernel
theorem dX11_arrives_101 : decode cX11_arrives 101 = .ok (.iload 4, 2) := by decide +kernel
theorem dX11_arrives_103 : decode cX11_arrives 103 = .ok (.iload_n 2, 1) := by decide +kernel
theorem dX11_arrives_104 : decode cX11_arrives 104 = .ok (.iconst 1, 1) := by decide +kernel
theorem dX11_arrives_105 : decode cX11_arrives 105 = .ok (.iadd, 1) := by decide +kernel
theorem dX11_arrives_106 : decode cX11_arrives 106 = .ok (.iastore, 1) := by decide +kernel
theorem dX11_arrives_107 : decode cX11_arrives 107 = .ok (.aload_n 0, 1) := by decide +kernel
theorem dX11_arrives_108 : decode cX11_arrives 108 = .ok (.getfield 91, 3) := by decide +kernel
theorem dX11_arrives_111 : decode cX11_arrives 111 = .ok (.iload 4, 2) := by decide +kernel
theorem dX11_arrives_113 : decode cX11_arrives 113 = .ok (.aload_n 0, 1) := by decide +kernel
theorem dX11_arrives_114 : decode cX11_arrives 114 = .ok (.getfield 100, 3) := by decide +kernel
theorem dX11_arrives_117 : decode cX11_arrives 117 = .ok (.iload_n 1, 1) := by decide +kernel
theorem dX11_arrives_118 : decode cX11_arrives 118 = .ok (.iconst 3, 1) := by decide +kernel
theorem dX11_arrives_119 : decode cX11_arrives 119 = .ok (.iadd, 1) := by decide +kernel
theorem dX11_arrives_120 : decode cX11_arrives 120 = .ok (.iaload, 1) := by decide +kernel
theorem dX11_arrives_121 : decode cX11_arrives 121 = .ok (.iastore, 1) := by decide +kernel
theorem dX11_arrives_122 : decode cX11_arrives 122 = .ok (.aload_n 0, 1) := by decide +kernel
theorem dX11_arrives_123 : decode cX11_arrives 123 = .ok (.getfield 94, 3) := by decide +kernel
theorem dX11_arrives_126 : decode cX11_arrives 126 = .ok (.iload 4, 2) := by decide +kernel
theorem dX11_arrives_128 : decode cX11_arrives 128 = .ok (.aload_n 0, 1) := by decide +kernel
theorem dX11_arrives_129 : decode cX11_arrives 129 = .ok (.getfield 82, 3) := by decide +kernel
theorem dX11_arrives_132 : decode cX11_arrives 132 = .ok (.iload_n 3, 1) := by decide +kernel
theorem dX11_arrives_133 : decode cX11_arrives 133 = .ok (.iaload, 1) := by decide +kernel
theorem dX11_arrives_134 : decode cX11_arrives 134 = .ok (.iastore, 1) := by decide +kernel
theorem dX11_arrives_135 : decode cX11_arrives 135 = .ok (.aload_n 0, 1) := by decide +kernel
theorem dX11_arrives_136 : decode cX11_arrives 136 = .ok (.getfield 97, 3) := by decide +kernel
theorem dX11_arrives_139 : decode cX11_arrives 139 = .ok (.iload 4, 2) := by decide +kernel
theorem dX11_arrives_141 : decode cX11_arrives 141 = .ok (.aload_n 0, 1) := by decide +kernel
theorem dX11_arrives_142 : decode cX11_arrives 142 = .ok (.getfield 100, 3) := by decide +kernel
theorem dX11_arrives_145 : decode cX11_arrives 145 = .ok (.iload_n 1, 1) := by decide +kernel
theorem dX11_arrives_146 : decode cX11_arrives 146 = .ok (.bipush 7, 2) := by decide +kernel
theorem dX11_arrives_148 : decode cX11_arrives 148 = .ok (.iadd, 1) := by decide +kernel
theorem dX11_arrives_149 : decode cX11_arrives 149 = .ok (.iaload, 1) := by decide +kernel
theorem dX11_arrives_150 : decode cX11_arrives 150 = .ok (.iastore, 1) := by decide +kernel
theorem dX11_arrives_151 : decode cX11_arrives 151 = .ok (.iconst 1, 1) := by decide +kernel
theorem dX11_arrives_152 : decode cX11_arrives 152 = .ok (.ireturn, 1) := by decide +kernel
set_option maxRecDepth 20000 in
theorem ggX11_carry_X11_isMessage : GoodIn wsX11_carry wsX11_isMessage := goodIn_r _ [6, 7, 8, 75, 76, 77, 78, 79, 80, 81, 82, 83, 84, 85, 86, 87, 88, 89, 90, 91, 92, 93, 94, 95, 96, 97, 98, 99, 100, 101, 102, 103, 104, 105, 106, 107, 108] (by decide +kernel) (by decide +kernel)
set_option maxRecDepth 20000 in
theorem gX11_carry_X11_isMessage : GoodIn wsX11_carry (wsV RX11 183 RX11 yX11_isMessage wsX11_isMessage) := goodIn_app (goodIn_of _ (by decide +kernel)) ggX11_carry_X11_isMessage
set_option maxRecDepth 20000 in
theorem ggX11_carry_X11_refused : GoodIn wsX11_carry wsX11_refused := goodIn_r _ [12, 13, 75, 76, 77, 78, 79, 80, 81, 82, 83, 84, 85, 86, 87, 88, 89, 90, 91, 92, 93, 94, 95, 96, 97, 98, 99, 100, 101, 102, 103, 104, 105, 106, 107, 108] (by decide +kernel) (by decide +kernel)
set_option maxRecDepth 20000 in
theorem gX11_carry_X11_refused : GoodIn wsX11_carry (wsV RX11 124 RX11 yX11_refused wsX11_refused) := goodIn_app (goodIn_of _ (by decide +kernel)) ggX11_carry_X11_refused
set_option maxRecDepth 20000 in
theorem ggX11_carry_X11_asks : GoodIn wsX11_carry wsX11_asks := goodIn_r _ [17, 18, 19, 20, 21, 22, 5, 23, 24, 25, 26, 27, 28, 29, 30, 31, 32, 33, 34, 35, 36, 37, 38, 39, 40, 41, 42, 43, 44, 45, 7, 1, 46, 47, 48, 49, 8, 75, 76, 77, 78, 79, 80, 81, 82, 83, 84, 85, 86, 87, 88, 89, 90, 91, 92, 93, 94, 95, 96, 97, 98, 99, 100, 101, 102, 103, 104, 105, 106, 107, 108] (by decide +kernel) (by decide +kernel)
set_option maxRecDepth 20000 in
theorem gX11_carry_X11_asks : GoodIn wsX11_carry (wsV RX11 186 RX11 yX11_asks wsX11_asks) := goodIn_app (goodIn_of _ (by decide +kernel)) ggX11_carry_X11_asks
set_option maxRecDepth 20000 in
theorem ggX11_carry_X11_arrives : GoodIn wsX11_carry wsX11_arrives := goodIn_r _ [53, 1, 54, 55, 56, 57, 58, 59, 60, 61, 75, 76, 77, 78, 79, 80, 81, 82, 83, 84, 85, 86, 87, 88, 89, 90, 91, 92, 93, 94, 95, 96, 97, 98, 99, 100, 101, 102, 103, 104, 105, 106, 107, 108] (by decide +kernel) (by decide +kernel)
set_option maxRecDepth 20000 in
theorem gX11_carry_X11_arrives : GoodIn wsX11_carry (wsV RX11 190 RX11 yX11_arrives wsX11_arrives) := goodIn_app (goodIn_of _ (by decide +kernel)) ggX11_carry_X11_arrives
set_option maxRecDepth 20000 in
theorem ggX11_carry_X11_returns : GoodIn wsX11_carry wsX11_returns := goodIn_r _ [65, 18, 35, 34, 26, 27, 66, 67, 68, 5, 69, 70, 71, 72, 73, 74, 33, 75, 76, 77, 78, 79, 80, 81, 82, 83, 84, 85, 86, 87, 88, 89, 90, 91, 92, 93, 94, 95, 96, 97, 98, 99, 100, 101, 102, 103, 104, 105, 106, 107, 108] (by decide +kernel) (by decide +kernel)
set_option maxRecDepth 20000 in
theorem gX11_carry_X11_returns : GoodIn wsX11_carry (wsV RX11 193 RX11 yX11_returns wsX11_returns) := goodIn_app (goodIn_of _ (by decide +kernel)) ggX11_carry_X11_returns
theorem dX11_carry_0 : decode cX11_carry 0 = .ok (.aload_n 0, 1) := by decide +kernel
theorem dX11_carry_1 : decode cX11_carry 1 = .ok (.aload_n 0, 1) := by decide +kernel
theorem dX11_carry_2 : decode cX11_carry 2 = .ok (.iload_n 1, 1) := by decide +kernel
theorem dX11_carry_3 : decode cX11_carry 3 = .ok (.invokevirtual 183, 3) := by decide +kernel
theorem dX11_carry_6 : decode cX11_carry 6 = .ok (.ifCond .eq 7, 3) := by decide +kernel
theorem dX11_carry_9 : decode cX11_carry 9 = .ok (.iconst 0, 1) := by decide +kernel
theorem dX11_carry_10 : decode cX11_carry 10 = .ok (.goto 4, 3) := by decide +kernel
theorem dX11_carry_13 : decode cX11_carry 13 = .ok (.iconst 1, 1) := by decide +kernel
theorem dX11_carry_14 : decode cX11_carry 14 = .ok (.invokevirtual 124, 3) := by decide +kernel
theorem dX11_carry_17 : decode cX11_carry 17 = .ok (.ifCond .eq 5, 3) := by decide +kernel
theorem dX11_carry_20 : decode cX11_carry 20 = .ok (.iconst 0, 1) := by decide +kernel
theorem dX11_carry_21 : decode cX11_carry 21 = .ok (.ireturn, 1) := by decide +kernel
theorem dX11_carry_22 : decode cX11_carry 22 = .ok (.bipush 8, 2) := by decide +kernel
theorem dX11_carry_24 : decode cX11_carry 24 = .ok (.iload_n 1, 1) := by decide +kernel
theorem dX11_carry_25 : decode cX11_carry 25 = .ok (.imul, 1) := by decide +kernel
theorem dX11_carry_26 : decode cX11_carry 26 = .ok (.istore_n 2, 1) := by decide +kernel
theorem dX11_carry_27 : decode cX11_carry 27 = .ok (.aload_n 0, 1) := by decide +kernel
theorem dX11_carry_28 : decode cX11_carry 28 = .ok (.getfield 100, 3) := by decide +kernel
theorem dX11_carry_31 : decode cX11_carry 31 = .ok (.iload_n 2, 1) := by decide +kernel
theorem dX11_carry_32 : decode cX11_carry 32 = .ok (.iaload, 1) := by decide +kernel
theorem dX11_carry_33 : decode cX11_carry 33 = .ok (.ifCond .ne 50, 3) := by decide +kernel
theorem dX11_carry_36 : decode cX11_carry 36 = .ok (.aload_n 0, 1) := by decide +kernel
theorem dX11_carry_37 : decode cX11_carry 37 = .ok (.aload_n 0, 1) := by decide +kernel
theorem dX11_carry_38 : decode cX11_carry 38 = .ok (.getfield 100, 3) := by decide +kernel
theorem dX11_carry_41 : decode cX11_carry 41 = .ok (.iload_n 2, 1) := by decide +kernel
theorem dX11_carry_42 : decode cX11_carry 42 = .ok (.iconst 1, 1) := by decide +kernel
theorem dX11_carry_43 : decode cX11_carry 43 = .ok (.iadd, 1) := by decide +kernel
theorem dX11_carry_44 : decode cX11_carry 44 = .ok (.iaload, 1) := by decide +kernel
theorem dX11_carry_45 : decode cX11_carry 45 = .ok (.aload_n 0, 1) := by decide +kernel
theorem dX11_carry_46 : decode cX11_carry 46 = .ok (.getfield 100, 3) := by decide +kernel
theorem dX11_carry_49 : decode cX11_carry 49 = .ok (.iload_n 2, 1) := by decide +kernel
theorem dX11_carry_50 : decode cX11_carry 50 = .ok (.iconst 2, 1) := by decide +kernel
theorem dX11_carry_51 : decode cX11_carry 51 = .ok (.iadd, 1) := by decide +kernel
theorem dX11_carry_52 : decode cX11_carry 52 = .ok (.iaload, 1) := by decide +kernel
theorem dX11_carry_53 : decode cX11_carry 53 = .ok (.aload_n 0, 1) := by decide +kernel
theorem dX11_carry_54 : decode cX11_carry 54 = .ok (.getfield 100, 3) := by decide +kernel
theorem dX11_carry_57 : decode cX11_carry 57 = .ok (.iload_n 2, 1) := by decide +kernel
theorem dX11_carry_58 : decode cX11_carry 58 = .ok (.iconst 3, 1) := by decide +kernel
theorem dX11_carry_59 : decode cX11_carry 59 = .ok (.iadd, 1) := by decide +kernel
theorem dX11_carry_60 : decode cX11_carry 60 = .ok (.iaload, 1) := by decide +kernel
theorem dX11_carry_61 : decode cX11_carry 61 = .ok (.aload_n 0, 1) := by decide +kernel
theorem dX11_carry_62 : decode cX11_carry 62 = .ok (.getfield 100, 3) := by decide +kernel
theorem dX11_carry_65 : decode cX11_carry 65 = .ok (.iload_n 2, 1) := by decide +kernel
theorem dX11_carry_66 : decode cX11_carry 66 = .ok (.iconst 4, 1) := by decide +kernel
theorem dX11_carry_67 : decode cX11_carry 67 = .ok (.iadd, 1) := by decide +kernel
theorem dX11_carry_68 : decode cX11_carry 68 = .ok (.iaload, 1) := by decide +kernel
theorem dX11_carry_69 : decode cX11_carry 69 = .ok (.aload_n 0, 1) := by decide +kernel
theorem dX11_carry_70 : decode cX11_carry 70 = .ok (.getfield 100, 3) := by decide +kernel
theorem dX11_carry_73 : decode cX11_carry 73 = .ok (.iload_n 2, 1) := by decide +kernel
theorem dX11_carry_74 : decode cX11_carry 74 = .ok (.iconst 5, 1) := by decide +kernel
theorem dX11_carry_75 : decode cX11_carry 75 = .ok (.iadd, 1) := by decide +kernel
theorem dX11_carry_76 : decode cX11_carry 76 = .ok (.iaload, 1) := by decide +kernel
theorem dX11_carry_77 : decode cX11_carry 77 = .ok (.invokevirtual 186, 3) := by decide +kernel
theorem dX11_carry_80 : decode cX11_carry 80 = .ok (.goto 58, 3) := by decide +kernel
theorem dX11_carry_83 : decode cX11_carry 83 = .ok (.aload_n 0, 1) := by decide +kernel
theorem dX11_carry_84 : decode cX11_carry 84 = .ok (.getfield 100, 3) := by decide +kernel
theorem dX11_carry_87 : decode cX11_carry 87 = .ok (.iload_n 2, 1) := by decide +kernel
theorem dX11_carry_88 : decode cX11_carry 88 = .ok (.iaload, 1) := by decide +kernel
theorem dX11_carry_89 : decode cX11_carry 89 = .ok (.iconst 1, 1) := by decide +kernel
theorem dX11_carry_90 : decode cX11_carry 90 = .ok (.if_icmp .ne 11, 3) := by decide +kernel
theorem dX11_carry_93 : decode cX11_carry 93 = .ok (.aload_n 0, 1) := by decide +kernel
theorem dX11_carry_94 : decode cX11_carry 94 = .ok (.iload_n 2, 1) := by decide +kernel
theorem dX11_carry_95 : decode cX11_carry 95 = .ok (.invokevirtual 190, 3) := by decide +kernel
theorem dX11_carry_98 : decode cX11_carry 98 = .ok (.goto 40, 3) := by decide +kernel
theorem dX11_carry_101 : decode cX11_carry 101 = .ok (.aload_n 0, 1) := by decide +kernel
theorem dX11_carry_102 : decode cX11_carry 102 = .ok (.aload_n 0, 1) := by decide +kernel
theorem dX11_carry_103 : decode cX11_carry 103 = .ok (.getfield 100, 3) := by decide +kernel
theorem dX11_carry_106 : decode cX11_carry 106 = .ok (.iload_n 2, 1) := by decide +kernel
theorem dX11_carry_107 : decode cX11_carry 107 = .ok (.iconst 1, 1) := by decide +kernel
theorem dX11_carry_108 : decode cX11_carry 108 = .ok (.iadd, 1) := by decide +kernel
theorem dX11_carry_109 : decode cX11_carry 109 = .ok (.iaload, 1) := by decide +kernel
theorem dX11_carry_110 : decode cX11_carry 110 = .ok (.aload_n 0, 1) := by decide +kernel
theorem dX11_carry_111 : decode cX11_carry 111 = .ok (.getfield 100, 3) := by decide +kernel
theorem dX11_carry_114 : decode cX11_carry 114 = .ok (.iload_n 2, 1) := by decide +kernel
theorem dX11_carry_115 : decode cX11_carry 115 = .ok (.iconst 3, 1) := by decide +kernel
theorem dX11_carry_116 : decode cX11_carry 116 = .ok (.iadd, 1) := by decide +kernel
theorem dX11_carry_117 : decode cX11_carry 117 = .ok (.iaload, 1) := by decide +kernel
theorem dX11_carry_118 : decode cX11_carry 118 = .ok (.aload_n 0, 1) := by decide +kernel
theorem dX11_carry_119 : decode cX11_carry 119 = .ok (.getfield 100, 3) := by decide +kernel
theorem dX11_carry_122 : decode cX11_carry 122 = .ok (.iload_n 2, 1) := by decide +kernel
theorem dX11_carry_123 : decode cX11_carry 123 = .ok (.iconst 4, 1) := by decide +kernel
theorem dX11_carry_124 : decode cX11_carry 124 = .ok (.iadd, 1) := by decide +kernel
theorem dX11_carry_125 : decode cX11_carry 125 = .ok (.iaload, 1) := by decide +kernel
theorem dX11_carry_126 : decode cX11_carry 126 = .ok (.aload_n 0, 1) := by decide +kernel
theorem dX11_carry_127 : decode cX11_carry 127 = .ok (.getfield 100, 3) := by decide +kernel
theorem dX11_carry_130 : decode cX11_carry 130 = .ok (.iload_n 2, 1) := by decide +kernel
theorem dX11_carry_131 : decode cX11_carry 131 = .ok (.bipush 6, 2) := by decide +kernel
theorem dX11_carry_133 : decode cX11_carry 133 = .ok (.iadd, 1) := by decide +kernel
theorem dX11_carry_134 : decode cX11_carry 134 = .ok (.iaload, 1) := by decide +kernel
theorem dX11_carry_135 : decode cX11_carry 135 = .ok (.invokevirtual 193, 3) := by decide +kernel
theorem dX11_carry_138 : decode cX11_carry 138 = .ok (.ireturn, 1) := by decide +kernel
set_option maxRecDepth 20000 in
theorem ggX11_drop_X11_isMessage : GoodIn wsX11_drop wsX11_isMessage := goodIn_r _ [6, 7, 1, 13, 14, 15, 16, 17, 18, 19, 20, 21, 22, 23, 24, 25, 26, 27, 28, 29, 30, 31, 32, 33, 34, 35, 36, 37, 38, 39, 40, 41, 42, 43, 44, 45, 46] (by decide +kernel) (by decide +kernel)
set_option maxRecDepth 20000 in
theorem gX11_drop_X11_isMessage : GoodIn wsX11_drop (wsV RX11 183 RX11 yX11_isMessage wsX11_isMessage) := goodIn_app (goodIn_of _ (by decide +kernel)) ggX11_drop_X11_isMessage
set_option maxRecDepth 20000 in
theorem ggX11_drop_X11_refused : GoodIn wsX11_drop wsX11_refused := goodIn_r _ [11, 12, 13, 14, 15, 16, 17, 18, 19, 20, 21, 22, 23, 24, 25, 26, 27, 28, 29, 30, 31, 32, 33, 34, 35, 36, 37, 38, 39, 40, 41, 42, 43, 44, 45, 46] (by decide +kernel) (by decide +kernel)
set_option maxRecDepth 20000 in
theorem gX11_drop_X11_refused : GoodIn wsX11_drop (wsV RX11 124 RX11 yX11_refused wsX11_refused) := goodIn_app (goodIn_of _ (by decide +kernel)) ggX11_drop_X11_refused
theorem dX11_drop_0 : decode cX11_drop 0 = .ok (.aload_n 0, 1) := by decide +kernel
theorem dX11_drop_1 : decode cX11_drop 1 = .ok (.aload_n 0, 1) := by decide +kernel
theorem dX11_drop_2 : decode cX11_drop 2 = .ok (.iload_n 1, 1) := by decide +kernel
theorem dX11_drop_3 : decode cX11_drop 3 = .ok (.invokevirtual 183, 3) := by decide +kernel
theorem dX11_drop_6 : decode cX11_drop 6 = .ok (.ifCond .eq 7, 3) := by decide +kernel
theorem dX11_drop_9 : decode cX11_drop 9 = .ok (.iconst 0, 1) := by decide +kernel
theorem dX11_drop_10 : decode cX11_drop 10 = .ok (.goto 4, 3) := by decide +kernel
theorem dX11_drop_13 : decode cX11_drop 13 = .ok (.iconst 1, 1) := by decide +kernel
theorem dX11_drop_14 : decode cX11_drop 14 = .ok (.invokevirtual 124, 3) := by decide +kernel
theorem dX11_drop_17 : decode cX11_drop 17 = .ok (.ifCond .eq 4, 3) := by decide +kernel
theorem dX11_drop_20 : decode cX11_drop 20 = .ok (.return_, 1) := by decide +kernel
theorem dX11_drop_21 : decode cX11_drop 21 = .ok (.aload_n 0, 1) := by decide +kernel
theorem dX11_drop_22 : decode cX11_drop 22 = .ok (.getfield 103, 3) := by decide +kernel
theorem dX11_drop_25 : decode cX11_drop 25 = .ok (.iload_n 1, 1) := by decide +kernel
theorem dX11_drop_26 : decode cX11_drop 26 = .ok (.iconst 0, 1) := by decide +kernel
theorem dX11_drop_27 : decode cX11_drop 27 = .ok (.bastore, 1) := by decide +kernel
theorem dX11_drop_28 : decode cX11_drop 28 = .ok (.return_, 1) := by decide +kernel
set_option maxRecDepth 20000 in
theorem ggX11_root_X11_isIn : GoodIn wsX11_root wsX11_isIn := goodIn_r _ [9] (by decide +kernel) (by decide +kernel)
set_option maxRecDepth 20000 in
theorem gX11_root_X11_isIn : GoodIn wsX11_root (va_wsS RX11 118 yX11_isIn wsX11_isIn) := goodIn_app (goodIn_of _ (by decide +kernel)) ggX11_root_X11_isIn
set_option maxRecDepth 20000 in
theorem ggX11_root_X11_refused : GoodIn wsX11_root wsX11_refused := goodIn_r _ [13, 14, 19, 20, 21, 22, 23, 24, 25, 26, 27, 28, 29, 30, 31, 32, 33, 34, 35, 36, 37, 38, 39, 40, 41, 42, 43, 44, 45, 46, 47, 48, 49, 50, 51, 52] (by decide +kernel) (by decide +kernel)
set_option maxRecDepth 20000 in
theorem gX11_root_X11_refused : GoodIn wsX11_root (wsV RX11 124 RX11 yX11_refused wsX11_refused) := goodIn_app (goodIn_of _ (by decide +kernel)) ggX11_root_X11_refused
set_option maxRecDepth 20000 in
theorem ggX11_root_X11_lent : GoodIn wsX11_root wsX11_lent := goodIn_r _ [18, 1, 2, 3, 19, 20, 21, 22, 23, 24, 25, 26, 27, 28, 29, 30, 31, 32, 33, 34, 35, 36, 37, 38, 39, 40, 41, 42, 43, 44, 45, 46, 47, 48, 49, 50, 51, 52] (by decide +kernel) (by decide +kernel)
set_option maxRecDepth 20000 in
theorem gX11_root_X11_lent : GoodIn wsX11_root (wsV RX11 114 RX11 yX11_lent wsX11_lent) := goodIn_app (goodIn_of _ (by decide +kernel)) ggX11_root_X11_lent
theorem dX11_root_0 : decode cX11_root 0 = .ok (.aload_n 0, 1) := by decide +kernel
theorem dX11_root_1 : decode cX11_root 1 = .ok (.iload_n 1, 1) := by decide +kernel
theorem dX11_root_2 : decode cX11_root 2 = .ok (.iconst 0, 1) := by decide +kernel
theorem dX11_root_3 : decode cX11_root 3 = .ok (.bipush 7, 2) := by decide +kernel
theorem dX11_root_5 : decode cX11_root 5 = .ok (.invokestatic 118, 3) := by decide +kernel
theorem dX11_root_8 : decode cX11_root 8 = .ok (.ifCond .eq 16, 3) := by decide +kernel
theorem dX11_root_11 : decode cX11_root 11 = .ok (.iload_n 2, 1) := by decide +kernel
theorem dX11_root_12 : decode cX11_root 12 = .ok (.iconst 0, 1) := by decide +kernel
theorem dX11_root_13 : decode cX11_root 13 = .ok (.iconst 3, 1) := by decide +kernel
theorem dX11_root_14 : decode cX11_root 14 = .ok (.invokestatic 118, 3) := by decide +kernel
theorem dX11_root_17 : decode cX11_root 17 = .ok (.ifCond .eq 7, 3) := by decide +kernel
theorem dX11_root_20 : decode cX11_root 20 = .ok (.iconst 0, 1) := by decide +kernel
theorem dX11_root_21 : decode cX11_root 21 = .ok (.goto 4, 3) := by decide +kernel
theorem dX11_root_24 : decode cX11_root 24 = .ok (.iconst 1, 1) := by decide +kernel
theorem dX11_root_25 : decode cX11_root 25 = .ok (.invokevirtual 124, 3) := by decide +kernel
theorem dX11_root_28 : decode cX11_root 28 = .ok (.ifCond .eq 5, 3) := by decide +kernel
theorem dX11_root_31 : decode cX11_root 31 = .ok (.iconst 0, 1) := by decide +kernel
theorem dX11_root_32 : decode cX11_root 32 = .ok (.ireturn, 1) := by decide +kernel
theorem dX11_root_33 : decode cX11_root 33 = .ok (.iconst 0, 1) := by decide +kernel
theorem dX11_root_34 : decode cX11_root 34 = .ok (.istore_n 3, 1) := by decide +kernel
theorem dX11_root_35 : decode cX11_root 35 = .ok (.iconst 0, 1) := by decide +kernel
theorem dX11_root_36 : decode cX11_root 36 = .ok (.istore 4, 2) := by decide +kernel
theorem dX11_root_38 : decode cX11_root 38 = .ok (.iload 4, 2) := by decide +kernel
theorem dX11_root_40 : decode cX11_root 40 = .ok (.aload_n 0, 1) := by decide +kernel
theorem dX11_root_41 : decode cX11_root 41 = .ok (.getfield 111, 3) := by decide +kernel
theorem dX11_root_44 : decode cX11_root 44 = .ok (.if_icmp .ge 38, 3) := by decide +kernel
theorem dX11_root_47 : decode cX11_root 47 = .ok (.aload_n 0, 1) := by decide +kernel
theorem dX11_root_48 : decode cX11_root 48 = .ok (.getfield 29, 3) := by decide +kernel
theorem dX11_root_51 : decode cX11_root 51 = .ok (.iload 4, 2) := by decide +kernel
theorem dX11_root_53 : decode cX11_root 53 = .ok (.iaload, 1) := by decide +kernel
theorem dX11_root_54 : decode cX11_root 54 = .ok (.iload_n 1, 1) := by decide +kernel
theorem dX11_root_55 : decode cX11_root 55 = .ok (.if_icmp .ne 19, 3) := by decide +kernel
theorem dX11_root_58 : decode cX11_root 58 = .ok (.aload_n 0, 1) := by decide +kernel
theorem dX11_root_59 : decode cX11_root 59 = .ok (.getfield 32, 3) := by decide +kernel
theorem dX11_root_62 : decode cX11_root 62 = .ok (.iload 4, 2) := by decide +kernel
theorem dX11_root_64 : decode cX11_root 64 = .ok (.iaload, 1) := by decide +kernel
theorem dX11_root_65 : decode cX11_root 65 = .ok (.ifCond .le 9, 3) := by decide +kernel
theorem dX11_root_68 : decode cX11_root 68 = .ok (.iload_n 3, 1) := by decide +kernel
theorem dX11_root_69 : decode cX11_root 69 = .ok (.iconst 1, 1) := by decide +kernel
theorem dX11_root_70 : decode cX11_root 70 = .ok (.iadd, 1) := by decide +kernel
theorem dX11_root_71 : decode cX11_root 71 = .ok (.goto 4, 3) := by decide +kernel
theorem dX11_root_74 : decode cX11_root 74 = .ok (.iload_n 3, 1) := by decide +kernel
theorem dX11_root_75 : decode cX11_root 75 = .ok (.istore_n 3, 1) := by decide +kernel
theorem dX11_root_76 : decode cX11_root 76 = .ok (.iinc 4 1, 3) := by decide +kernel
theorem dX11_root_79 : decode cX11_root 79 = .ok (.goto (-41), 3) := by decide +kernel
theorem dX11_root_82 : decode cX11_root 82 = .ok (.iload_n 2, 1) := by decide +kernel
theorem dX11_root_83 : decode cX11_root 83 = .ok (.ifCond .ne 12, 3) := by decide +kernel
theorem dX11_root_86 : decode cX11_root 86 = .ok (.aload_n 0, 1) := by decide +kernel
theorem dX11_root_87 : decode cX11_root 87 = .ok (.getfield 26, 3) := by decide +kernel
theorem dX11_root_90 : decode cX11_root 90 = .ok (.iload_n 1, 1) := by decide +kernel
theorem dX11_root_91 : decode cX11_root 91 = .ok (.iaload, 1) := by decide +kernel
theorem dX11_root_92 : decode cX11_root 92 = .ok (.goto 32, 3) := by decide +kernel
theorem dX11_root_95 : decode cX11_root 95 = .ok (.iload_n 2, 1) := by decide +kernel
theorem dX11_root_96 : decode cX11_root 96 = .ok (.iconst 1, 1) := by decide +kernel
theorem dX11_root_97 : decode cX11_root 97 = .ok (.if_icmp .ne 13, 3) := by decide +kernel
theorem dX11_root_100 : decode cX11_root 100 = .ok (.aload_n 0, 1) := by decide +kernel
theorem dX11_root_101 : decode cX11_root 101 = .ok (.getfield 23, 3) := by decide +kernel
theorem dX11_root_104 : decode cX11_root 104 = .ok (.iload_n 1, 1) := by decide +kernel
theorem dX11_root_105 : decode cX11_root 105 = .ok (.laload, 1) := by decide +kernel
theorem dX11_root_106 : decode cX11_root 106 = .ok (.l2i, 1) := by decide +kernel
theorem dX11_root_107 : decode cX11_root 107 = .ok (.goto 17, 3) := by decide +kernel
theorem dX11_root_110 : decode cX11_root 110 = .ok (.iload_n 2, 1) := by decide +kernel
theorem dX11_root_111 : decode cX11_root 111 = .ok (.iconst 2, 1) := by decide +kernel
theorem dX11_root_112 : decode cX11_root 112 = .ok (.if_icmp .ne 11, 3) := by decide +kernel
theorem dX11_root_115 : decode cX11_root 115 = .ok (.aload_n 0, 1) := by decide +kernel
theorem dX11_root_116 : decode cX11_root 116 = .ok (.iload_n 1, 1) := by decide +kernel
theorem dX11_root_117 : decode cX11_root 117 = .ok (.invokevirtual 114, 3) := by decide +kernel
theorem dX11_root_120 : decode cX11_root 120 = .ok (.goto 4, 3) := by decide +kernel
theorem dX11_root_123 : decode cX11_root 123 = .ok (.iload_n 3, 1) := by decide +kernel
theorem dX11_root_124 : decode cX11_root 124 = .ok (.ireturn, 1) := by decide +kernel
set_option maxRecDepth 20000 in
theorem ggX11_gate_X11_isPlace : GoodIn wsX11_gate wsX11_isPlace := goodIn_r _ [10, 11, 12, 9, 13] (by decide +kernel) (by decide +kernel)
set_option maxRecDepth 20000 in
theorem gX11_gate_X11_isPlace : GoodIn wsX11_gate (va_wsS RX11 160 yX11_isPlace wsX11_isPlace) := goodIn_app (goodIn_of _ (by decide +kernel)) ggX11_gate_X11_isPlace
set_option maxRecDepth 20000 in
theorem ggX11_gate_X11_isIn : GoodIn wsX11_gate wsX11_isIn := goodIn_r _ [13] (by decide +kernel) (by decide +kernel)
set_option maxRecDepth 20000 in
theorem gX11_gate_X11_isIn : GoodIn wsX11_gate (va_wsS RX11 118 yX11_isIn wsX11_isIn) := goodIn_app (goodIn_of _ (by decide +kernel)) ggX11_gate_X11_isIn
set_option maxRecDepth 20000 in
theorem ggX11_gate_X11_refused : GoodIn wsX11_gate wsX11_refused := goodIn_r _ [17, 18, 49, 50, 51, 52, 53, 54, 55, 56, 57, 58, 59, 60, 61, 62, 63, 64, 65, 66, 67, 68, 69, 70, 71, 72, 73, 74, 75, 76, 77, 78, 79, 80, 81, 82] (by decide +kernel) (by decide +kernel)
set_option maxRecDepth 20000 in
theorem gX11_gate_X11_refused : GoodIn wsX11_gate (wsV RX11 124 RX11 yX11_refused wsX11_refused) := goodIn_app (goodIn_of _ (by decide +kernel)) ggX11_gate_X11_refused
set_option maxRecDepth 20000 in
theorem ggX11_gate_X11_isHold : GoodIn wsX11_gate wsX11_isHold := goodIn_r _ [22, 23, 24, 49, 50, 51, 52, 53, 54, 55, 56, 57, 58, 59, 60, 61, 62, 63, 64, 65, 66, 67, 68, 69, 70, 71, 72, 73, 74, 75, 76, 77, 78, 79, 80, 81, 82] (by decide +kernel) (by decide +kernel)
set_option maxRecDepth 20000 in
theorem gX11_gate_X11_isHold : GoodIn wsX11_gate (wsV RX11 153 RX11 yX11_isHold wsX11_isHold) := goodIn_app (goodIn_of _ (by decide +kernel)) ggX11_gate_X11_isHold
set_option maxRecDepth 20000 in
theorem ggX11_gate_X11_live : GoodIn wsX11_gate wsX11_live := goodIn_r _ [28, 1, 29, 19, 20, 21, 9, 22, 23, 24, 30, 31, 32, 33, 34, 35, 36, 37, 38, 39, 40, 41, 42, 43, 44, 45, 46, 47, 48, 49, 50, 51, 52, 53, 54, 55, 56, 57, 58, 59, 60, 61, 62, 63, 64, 65, 66, 67, 68, 69, 70, 71, 72, 73, 74, 75, 76, 77, 78, 79, 80, 81, 82] (by decide +kernel) (by decide +kernel)
set_option maxRecDepth 20000 in
theorem gX11_gate_X11_live : GoodIn wsX11_gate (wsV RX11 163 RX11 yX11_live wsX11_live) := goodIn_app (goodIn_of _ (by decide +kernel)) ggX11_gate_X11_live
theorem dX11_gate_0 : decode cX11_gate 0 = .ok (.aload_n 0, 1) := by decide +kernel
theorem dX11_gate_1 : decode cX11_gate 1 = .ok (.iload_n 1, 1) := by decide +kernel
theorem dX11_gate_2 : decode cX11_gate 2 = .ok (.iload_n 2, 1) := by decide +kernel
theorem dX11_gate_3 : decode cX11_gate 3 = .ok (.invokestatic 160, 3) := by decide +kernel
theorem dX11_gate_6 : decode cX11_gate 6 = .ok (.ifCond .eq 17, 3) := by decide +kernel
theorem dX11_gate_9 : decode cX11_gate 9 = .ok (.iload_n 3, 1) := by decide +kernel
theorem dX11_gate_10 : decode cX11_gate 10 = .ok (.iconst 0, 1) := by decide +kernel
theorem dX11_gate_11 : decode cX11_gate 11 = .ok (.bipush 6, 2) := by decide +kernel
theorem dX11_gate_13 : decode cX11_gate 13 = .ok (.invokestatic 118, 3) := by decide +kernel
theorem dX11_gate_16 : decode cX11_gate 16 = .ok (.ifCond .eq 7, 3) := by decide +kernel
theorem dX11_gate_19 : decode cX11_gate 19 = .ok (.iconst 0, 1) := by decide +kernel
theorem dX11_gate_20 : decode cX11_gate 20 = .ok (.goto 4, 3) := by decide +kernel
theorem dX11_gate_23 : decode cX11_gate 23 = .ok (.iconst 1, 1) := by decide +kernel
theorem dX11_gate_24 : decode cX11_gate 24 = .ok (.invokevirtual 124, 3) := by decide +kernel
theorem dX11_gate_27 : decode cX11_gate 27 = .ok (.ifCond .eq 5, 3) := by decide +kernel
theorem dX11_gate_30 : decode cX11_gate 30 = .ok (.iconst 0, 1) := by decide +kernel
theorem dX11_gate_31 : decode cX11_gate 31 = .ok (.ireturn, 1) := by decide +kernel
theorem dX11_gate_32 : decode cX11_gate 32 = .ok (.bipush 8, 2) := by decide +kernel
theorem dX11_gate_34 : decode cX11_gate 34 = .ok (.iload_n 1, 1) := by decide +kernel
theorem dX11_gate_35 : decode cX11_gate 35 = .ok (.imul, 1) := by decide +kernel
theorem dX11_gate_36 : decode cX11_gate 36 = .ok (.iload_n 2, 1) := by decide +kernel
theorem dX11_gate_37 : decode cX11_gate 37 = .ok (.iadd, 1) := by decide +kernel
theorem dX11_gate_38 : decode cX11_gate 38 = .ok (.istore 4, 2) := by decide +kernel
theorem dX11_gate_40 : decode cX11_gate 40 = .ok (.iconst 0, 1) := by decide +kernel
theorem dX11_gate_41 : decode cX11_gate 41 = .ok (.istore 5, 2) := by decide +kernel
theorem dX11_gate_43 : decode cX11_gate 43 = .ok (.iconst 0, 1) := by decide +kernel
theorem dX11_gate_44 : decode cX11_gate 44 = .ok (.istore 6, 2) := by decide +kernel
theorem dX11_gate_46 : decode cX11_gate 46 = .ok (.iload 6, 2) := by decide +kernel
theorem dX11_gate_48 : decode cX11_gate 48 = .ok (.aload_n 0, 1) := by decide +kernel
theorem dX11_gate_49 : decode cX11_gate 49 = .ok (.getfield 111, 3) := by decide +kernel
theorem dX11_gate_52 : decode cX11_gate 52 = .ok (.if_icmp .ge 31, 3) := by decide +kernel
theorem dX11_gate_55 : decode cX11_gate 55 = .ok (.aload_n 0, 1) := by decide +kernel
theorem dX11_gate_56 : decode cX11_gate 56 = .ok (.iload_n 1, 1) := by decide +kernel
theorem dX11_gate_57 : decode cX11_gate 57 = .ok (.iload_n 2, 1) := by decide +kernel
theorem dX11_gate_58 : decode cX11_gate 58 = .ok (.iload 6, 2) := by decide +kernel
theorem dX11_gate_60 : decode cX11_gate 60 = .ok (.invokevirtual 153, 3) := by decide +kernel
theorem dX11_gate_63 : decode cX11_gate 63 = .ok (.ifCond .eq 10, 3) := by decide +kernel
theorem dX11_gate_66 : decode cX11_gate 66 = .ok (.iload 5, 2) := by decide +kernel
theorem dX11_gate_68 : decode cX11_gate 68 = .ok (.iconst 1, 1) := by decide +kernel
theorem dX11_gate_69 : decode cX11_gate 69 = .ok (.iadd, 1) := by decide +kernel
theorem dX11_gate_70 : decode cX11_gate 70 = .ok (.goto 5, 3) := by decide +kernel
theorem dX11_gate_73 : decode cX11_gate 73 = .ok (.iload 5, 2) := by decide +kernel
theorem dX11_gate_75 : decode cX11_gate 75 = .ok (.istore 5, 2) := by decide +kernel
theorem dX11_gate_77 : decode cX11_gate 77 = .ok (.iinc 6 1, 3) := by decide +kernel
theorem dX11_gate_80 : decode cX11_gate 80 = .ok (.goto (-34), 3) := by decide +kernel
theorem dX11_gate_83 : decode cX11_gate 83 = .ok (.iload_n 3, 1) := by decide +kernel
theorem dX11_gate_84 : decode cX11_gate 84 = .ok (.tableswitch 90 0 5 #[40, 47, 50, 58, 66, 74], 40) := by decide +kernel
theorem dX11_gate_124 : decode cX11_gate 124 = .ok (.aload_n 0, 1) := by decide +kernel
theorem dX11_gate_125 : decode cX11_gate 125 = .ok (.iload_n 1, 1) := by decide +kernel
theorem dX11_gate_126 : decode cX11_gate 126 = .ok (.iload_n 2, 1) := by decide +kernel
theorem dX11_gate_127 : decode cX11_gate 127 = .ok (.invokevirtual 163, 3) := by decide +kernel
theorem dX11_gate_130 : decode cX11_gate 130 = .ok (.ireturn, 1) := by decide +kernel
theorem dX11_gate_131 : decode cX11_gate 131 = .ok (.iload 5, 2) := by decide +kernel
theorem dX11_gate_133 : decode cX11_gate 133 = .ok (.ireturn, 1) := by decide +kernel
theorem dX11_gate_134 : decode cX11_gate 134 = .ok (.aload_n 0, 1) := by decide +kernel
theorem dX11_gate_135 : decode cX11_gate 135 = .ok (.getfield 70, 3) := by decide +kernel
theorem dX11_gate_138 : decode cX11_gate 138 = .ok (.iload 4, 2) := by decide +kernel
theorem dX11_gate_140 : decode cX11_gate 140 = .ok (.iaload, 1) := by decide +kernel
theorem dX11_gate_141 : decode cX11_gate 141 = .ok (.ireturn, 1) := by decide +kernel
theorem dX11_gate_142 : decode cX11_gate 142 = .ok (.aload_n 0, 1) := by decide +kernel
theorem dX11_gate_143 : decode cX11_gate 143 = .ok (.getfield 73, 3) := by decide +kernel
theorem dX11_gate_146 : decode cX11_gate 146 = .ok (.iload 4, 2) := by decide +kernel
theorem dX11_gate_148 : decode cX11_gate 148 = .ok (.iaload, 1) := by decide +kernel
theorem dX11_gate_149 : decode cX11_gate 149 = .ok (.ireturn, 1) := by decide +kernel
theorem dX11_gate_150 : decode cX11_gate 150 = .ok (.aload_n 0, 1) := by decide +kernel
theorem dX11_gate_151 : decode cX11_gate 151 = .ok (.getfield 76, 3) := by decide +kernel
theorem dX11_gate_154 : decode cX11_gate 154 = .ok (.iload 4, 2) := by decide +kernel
theorem dX11_gate_156 : decode cX11_gate 156 = .ok (.iaload, 1) := by decide +kernel
theorem dX11_gate_157 : decode cX11_gate 157 = .ok (.ireturn, 1) := by decide +kernel
theorem dX11_gate_158 : decode cX11_gate 158 = .ok (.aload_n 0, 1) := by decide +kernel
theorem dX11_gate_159 : decode cX11_gate 159 = .ok (.getfield 79, 3) := by decide +kernel
theorem dX11_gate_162 : decode cX11_gate 162 = .ok (.iload 4, 2) := by decide +kernel
theorem dX11_gate_164 : decode cX11_gate 164 = .ok (.baload, 1) := by decide +kernel
theorem dX11_gate_165 : decode cX11_gate 165 = .ok (.ifCond .eq 7, 3) := by decide +kernel
theorem dX11_gate_168 : decode cX11_gate 168 = .ok (.iconst 1, 1) := by decide +kernel
theorem dX11_gate_169 : decode cX11_gate 169 = .ok (.goto 4, 3) := by decide +kernel
theorem dX11_gate_172 : decode cX11_gate 172 = .ok (.iconst 0, 1) := by decide +kernel
theorem dX11_gate_173 : decode cX11_gate 173 = .ok (.ireturn, 1) := by decide +kernel
theorem dX11_gate_174 : decode cX11_gate 174 = .ok (.aload_n 0, 1) := by decide +kernel
theorem dX11_gate_175 : decode cX11_gate 175 = .ok (.getfield 85, 3) := by decide +kernel
theorem dX11_gate_178 : decode cX11_gate 178 = .ok (.iload 4, 2) := by decide +kernel
theorem dX11_gate_180 : decode cX11_gate 180 = .ok (.iaload, 1) := by decide +kernel
theorem dX11_gate_181 : decode cX11_gate 181 = .ok (.ireturn, 1) := by decide +kernel
set_option maxRecDepth 20000 in
theorem ggX11_message_X11_isMessage : GoodIn wsX11_message wsX11_isMessage := goodIn_r _ [6, 7, 8, 17, 18, 19, 20, 21, 22, 23, 24, 25, 26, 27, 28, 29, 30, 31, 32, 33, 34, 35, 36, 37, 38, 39, 40, 41, 42, 43, 44, 45, 46, 47, 48, 49, 50] (by decide +kernel) (by decide +kernel)
set_option maxRecDepth 20000 in
theorem gX11_message_X11_isMessage : GoodIn wsX11_message (wsV RX11 183 RX11 yX11_isMessage wsX11_isMessage) := goodIn_app (goodIn_of _ (by decide +kernel)) ggX11_message_X11_isMessage
set_option maxRecDepth 20000 in
theorem ggX11_message_X11_isIn : GoodIn wsX11_message wsX11_isIn := goodIn_r _ [11] (by decide +kernel) (by decide +kernel)
set_option maxRecDepth 20000 in
theorem gX11_message_X11_isIn : GoodIn wsX11_message (va_wsS RX11 118 yX11_isIn wsX11_isIn) := goodIn_app (goodIn_of _ (by decide +kernel)) ggX11_message_X11_isIn
set_option maxRecDepth 20000 in
theorem ggX11_message_X11_refused : GoodIn wsX11_message wsX11_refused := goodIn_r _ [15, 16, 17, 18, 19, 20, 21, 22, 23, 24, 25, 26, 27, 28, 29, 30, 31, 32, 33, 34, 35, 36, 37, 38, 39, 40, 41, 42, 43, 44, 45, 46, 47, 48, 49, 50] (by decide +kernel) (by decide +kernel)
set_option maxRecDepth 20000 in
theorem gX11_message_X11_refused : GoodIn wsX11_message (wsV RX11 124 RX11 yX11_refused wsX11_refused) := goodIn_app (goodIn_of _ (by decide +kernel)) ggX11_message_X11_refused
theorem dX11_message_0 : decode cX11_message 0 = .ok (.aload_n 0, 1) := by decide +kernel
theorem dX11_message_1 : decode cX11_message 1 = .ok (.aload_n 0, 1) := by decide +kernel
theorem dX11_message_2 : decode cX11_message 2 = .ok (.iload_n 1, 1) := by decide +kernel
theorem dX11_message_3 : decode cX11_message 3 = .ok (.invokevirtual 183, 3) := by decide +kernel
theorem dX11_message_6 : decode cX11_message 6 = .ok (.ifCond .eq 17, 3) := by decide +kernel
theorem dX11_message_9 : decode cX11_message 9 = .ok (.iload_n 2, 1) := by decide +kernel
theorem dX11_message_10 : decode cX11_message 10 = .ok (.iconst 0, 1) := by decide +kernel
theorem dX11_message_11 : decode cX11_message 11 = .ok (.bipush 6, 2) := by decide +kernel
theorem dX11_message_13 : decode cX11_message 13 = .ok (.invokestatic 118, 3) := by decide +kernel
theorem dX11_message_16 : decode cX11_message 16 = .ok (.ifCond .eq 7, 3) := by decide +kernel
theorem dX11_message_19 : decode cX11_message 19 = .ok (.iconst 0, 1) := by decide +kernel
theorem dX11_message_20 : decode cX11_message 20 = .ok (.goto 4, 3) := by decide +kernel
theorem dX11_message_23 : decode cX11_message 23 = .ok (.iconst 1, 1) := by decide +kernel
theorem dX11_message_24 : decode cX11_message 24 = .ok (.invokevirtual 124, 3) := by decide +kernel
theorem dX11_message_27 : decode cX11_message 27 = .ok (.ifCond .eq 5, 3) := by decide +kernel
theorem dX11_message_30 : decode cX11_message 30 = .ok (.iconst 0, 1) := by decide +kernel
theorem dX11_message_31 : decode cX11_message 31 = .ok (.ireturn, 1) := by decide +kernel
theorem dX11_message_32 : decode cX11_message 32 = .ok (.aload_n 0, 1) := by decide +kernel
theorem dX11_message_33 : decode cX11_message 33 = .ok (.getfield 100, 3) := by decide +kernel
theorem dX11_message_36 : decode cX11_message 36 = .ok (.bipush 8, 2) := by decide +kernel
theorem dX11_message_38 : decode cX11_message 38 = .ok (.iload_n 1, 1) := by decide +kernel
theorem dX11_message_39 : decode cX11_message 39 = .ok (.imul, 1) := by decide +kernel
theorem dX11_message_40 : decode cX11_message 40 = .ok (.iload_n 2, 1) := by decide +kernel
theorem dX11_message_41 : decode cX11_message 41 = .ok (.iadd, 1) := by decide +kernel
theorem dX11_message_42 : decode cX11_message 42 = .ok (.iaload, 1) := by decide +kernel
theorem dX11_message_43 : decode cX11_message 43 = .ok (.ireturn, 1) := by decide +kernel
theorem dX11_sent_0 : decode cX11_sent 0 = .ok (.aload_n 0, 1) := by decide +kernel
theorem dX11_sent_1 : decode cX11_sent 1 = .ok (.iconst 0, 1) := by decide +kernel
theorem dX11_sent_2 : decode cX11_sent 2 = .ok (.putfield 106, 3) := by decide +kernel
theorem dX11_sent_5 : decode cX11_sent 5 = .ok (.aload_n 0, 1) := by decide +kernel
theorem dX11_sent_6 : decode cX11_sent 6 = .ok (.getfield 166, 3) := by decide +kernel
theorem dX11_sent_9 : decode cX11_sent 9 = .ok (.ireturn, 1) := by decide +kernel
set_option maxRecDepth 20000 in
theorem ggX11_clock_X11_isIn : GoodIn wsX11_clock wsX11_isIn := goodIn_r _ [4] (by decide +kernel) (by decide +kernel)
set_option maxRecDepth 20000 in
theorem gX11_clock_X11_isIn : GoodIn wsX11_clock (va_wsS RX11 118 yX11_isIn wsX11_isIn) := goodIn_app (goodIn_of _ (by decide +kernel)) ggX11_clock_X11_isIn
set_option maxRecDepth 20000 in
theorem ggX11_clock_X11_refused : GoodIn wsX11_clock wsX11_refused := goodIn_r _ [8, 9, 16, 17, 18, 19, 20, 21, 22, 23, 24, 25, 26, 27, 28, 29, 30, 31, 32, 33, 34, 35, 36, 37, 38, 39, 40, 41, 42, 43, 44, 45, 46, 47, 48, 49] (by decide +kernel) (by decide +kernel)
set_option maxRecDepth 20000 in
theorem gX11_clock_X11_refused : GoodIn wsX11_clock (wsV RX11 124 RX11 yX11_refused wsX11_refused) := goodIn_app (goodIn_of _ (by decide +kernel)) ggX11_clock_X11_refused
set_option maxRecDepth 20000 in
theorem ggX11_clock_X11_clockOf : GoodIn wsX11_clock wsX11_clockOf := goodIn_r _ [13, 14, 15, 16, 17, 18, 19, 20, 21, 22, 23, 24, 25, 26, 27, 28, 29, 30, 31, 32, 33, 34, 35, 36, 37, 38, 39, 40, 41, 42, 43, 44, 45, 46, 47, 48, 49] (by decide +kernel) (by decide +kernel)
set_option maxRecDepth 20000 in
theorem gX11_clock_X11_clockOf : GoodIn wsX11_clock (wsV RX11 139 RX11 yX11_clockOf wsX11_clockOf) := goodIn_app (goodIn_of _ (by decide +kernel)) ggX11_clock_X11_clockOf
theorem dX11_clock_0 : decode cX11_clock 0 = .ok (.aload_n 0, 1) := by decide +kernel
theorem dX11_clock_1 : decode cX11_clock 1 = .ok (.iload_n 1, 1) := by decide +kernel
theorem dX11_clock_2 : decode cX11_clock 2 = .ok (.iconst (-1), 1) := by decide +kernel
theorem dX11_clock_3 : decode cX11_clock 3 = .ok (.iconst 5, 1) := by decide +kernel
theorem dX11_clock_4 : decode cX11_clock 4 = .ok (.invokestatic 118, 3) := by decide +kernel
theorem dX11_clock_7 : decode cX11_clock 7 = .ok (.ifCond .eq 7, 3) := by decide +kernel
theorem dX11_clock_10 : decode cX11_clock 10 = .ok (.iconst 0, 1) := by decide +kernel
theorem dX11_clock_11 : decode cX11_clock 11 = .ok (.goto 4, 3) := by decide +kernel
theorem dX11_clock_14 : decode cX11_clock 14 = .ok (.iconst 1, 1) := by decide +kernel
theorem dX11_clock_15 : decode cX11_clock 15 = .ok (.invokevirtual 124, 3) := by decide +kernel
theorem dX11_clock_18 : decode cX11_clock 18 = .ok (.ifCond .eq 7, 3) := by decide +kernel
theorem dX11_clock_21 : decode cX11_clock 21 = .ok (.iconst 0, 1) := by decide +kernel
theorem dX11_clock_22 : decode cX11_clock 22 = .ok (.goto 17, 3) := by decide +kernel
theorem dX11_clock_25 : decode cX11_clock 25 = .ok (.aload_n 0, 1) := by decide +kernel
theorem dX11_clock_26 : decode cX11_clock 26 = .ok (.iload_n 1, 1) := by decide +kernel
theorem dX11_clock_27 : decode cX11_clock 27 = .ok (.ifCond .ge 8, 3) := by decide +kernel
theorem dX11_clock_30 : decode cX11_clock 30 = .ok (.bipush 6, 2) := by decide +kernel
theorem dX11_clock_32 : decode cX11_clock 32 = .ok (.goto 4, 3) := by decide +kernel
theorem dX11_clock_35 : decode cX11_clock 35 = .ok (.iload_n 1, 1) := by decide +kernel
theorem dX11_clock_36 : decode cX11_clock 36 = .ok (.invokevirtual 139, 3) := by decide +kernel
theorem dX11_clock_39 : decode cX11_clock 39 = .ok (.ireturn, 1) := by decide +kernel
theorem dJ9_max_7cf53_0 : decode cJ9_max_7cf53 0 = .ok (.iload_n 0, 1) := by decide +kernel
theorem dJ9_max_7cf53_1 : decode cJ9_max_7cf53 1 = .ok (.iload_n 1, 1) := by decide +kernel
end
section
theorem dJ9_max_7cf53_2 : decode cJ9_max_7cf53 2 = .ok (.if_icmp .lt 7, 3) := by decide +kernel
theorem dJ9_max_7cf53_5 : decode cJ9_max_7cf53 5 = .ok (.iload_n 0, 1) := by decide +kernel
theorem dJ9_max_7cf53_6 : decode cJ9_max_7cf53 6 = .ok (.goto 4, 3) := by decide +kernel
theorem dJ9_max_7cf53_9 : decode cJ9_max_7cf53 9 = .ok (.iload_n 1, 1) := by decide +kernel
theorem dJ9_max_7cf53_10 : decode cJ9_max_7cf53 10 = .ok (.ireturn, 1) := by decide +kernel
theorem dJ9_max_f86c9_0 : decode cJ9_max_f86c9 0 = .ok (.lload_n 0, 1) := by decide +kernel
theorem dJ9_max_f86c9_1 : decode cJ9_max_f86c9 1 = .ok (.lload_n 2, 1) := by decide +kernel
theorem dJ9_max_f86c9_2 : decode cJ9_max_f86c9 2 = .ok (.lcmp, 1) := by decide +kernel
theorem dJ9_max_f86c9_3 : decode cJ9_max_f86c9 3 = .ok (.ifCond .lt 7, 3) := by decide +kernel
theorem dJ9_max_f86c9_6 : decode cJ9_max_f86c9 6 = .ok (.lload_n 0, 1) := by decide +kernel
theorem dJ9_max_f86c9_7 : decode cJ9_max_f86c9 7 = .ok (.goto 4, 3) := by decide +kernel
theorem dJ9_max_f86c9_10 : decode cJ9_max_f86c9 10 = .ok (.lload_n 2, 1) := by decide +kernel
theorem dJ9_max_f86c9_11 : decode cJ9_max_f86c9 11 = .ok (.lreturn, 1) := by decide +kernel
theorem dJ9_min_7cf53_0 : decode cJ9_min_7cf53 0 = .ok (.iload_n 0, 1) := by decide +kernel
theorem dJ9_min_7cf53_1 : decode cJ9_min_7cf53 1 = .ok (.iload_n 1, 1) := by decide +kernel
theorem dJ9_min_7cf53_2 : decode cJ9_min_7cf53 2 = .ok (.if_icmp .gt 7, 3) := by decide +kernel
theorem dJ9_min_7cf53_5 : decode cJ9_min_7cf53 5 = .ok (.iload_n 0, 1) := by decide +kernel
theorem dJ9_min_7cf53_6 : decode cJ9_min_7cf53 6 = .ok (.goto 4, 3) := by decide +kernel
theorem dJ9_min_7cf53_9 : decode cJ9_min_7cf53 9 = .ok (.iload_n 1, 1) := by decide +kernel
theorem dJ9_min_7cf53_10 : decode cJ9_min_7cf53 10 = .ok (.ireturn, 1) := by decide +kernel
theorem dJ9_min_f86c9_0 : decode cJ9_min_f86c9 0 = .ok (.lload_n 0, 1) := by decide +kernel
theorem dJ9_min_f86c9_1 : decode cJ9_min_f86c9 1 = .ok (.lload_n 2, 1) := by decide +kernel
theorem dJ9_min_f86c9_2 : decode cJ9_min_f86c9 2 = .ok (.lcmp, 1) := by decide +kernel
theorem dJ9_min_f86c9_3 : decode cJ9_min_f86c9 3 = .ok (.ifCond .gt 7, 3) := by decide +kernel
theorem dJ9_min_f86c9_6 : decode cJ9_min_f86c9 6 = .ok (.lload_n 0, 1) := by decide +kernel
theorem dJ9_min_f86c9_7 : decode cJ9_min_f86c9 7 = .ok (.goto 4, 3) := by decide +kernel
theorem dJ9_min_f86c9_10 : decode cJ9_min_f86c9 10 = .ok (.lload_n 2, 1) := by decide +kernel
theorem dJ9_min_f86c9_11 : decode cJ9_min_f86c9 11 = .ok (.lreturn, 1) := by decide +kernel
theorem dJxa1e45_init_da8c8_0 : decode cJxa1e45_init_da8c8 0 = .ok (.aload_n 0, 1) := by decide +kernel
theorem dJxa1e45_init_da8c8_1 : decode cJxa1e45_init_da8c8 1 = .ok (.invokespecial 1, 3) := by decide +kernel
theorem dJxa1e45_init_da8c8_4 : decode cJxa1e45_init_da8c8 4 = .ok (.return_, 1) := by decide +kernel
set_option maxRecDepth 20000 in
theorem ggJxc12de_init_da8c8_Jxa1e45_init_da8c8 : GoodIn wsJxc12de_init_da8c8 wsJxa1e45_init_da8c8 := goodIn_r _ [5, 6, 7, 8] (by decide +kernel) (by decide +kernel)
set_option maxRecDepth 20000 in
theorem gJxc12de_init_da8c8_Jxa1e45_init_da8c8 : GoodIn wsJxc12de_init_da8c8 (wsJxa1e45_init_da8c8) := ggJxc12de_init_da8c8_Jxa1e45_init_da8c8
theorem dJxc12de_init_da8c8_0 : decode cJxc12de_init_da8c8 0 = .ok (.aload_n 0, 1) := by decide +kernel
theorem dJxc12de_init_da8c8_1 : decode cJxc12de_init_da8c8 1 = .ok (.invokespecial 1, 3) := by decide +kernel
theorem dJxc12de_init_da8c8_4 : decode cJxc12de_init_da8c8 4 = .ok (.aload_n 0, 1) := by decide +kernel
theorem dJxc12de_init_da8c8_5 : decode cJxc12de_init_da8c8 5 = .ok (.iconst 0, 1) := by decide +kernel
theorem dJxc12de_init_da8c8_6 : decode cJxc12de_init_da8c8 6 = .ok (.putfield 7, 3) := by decide +kernel
theorem dJxc12de_init_da8c8_9 : decode cJxc12de_init_da8c8 9 = .ok (.return_, 1) := by decide +kernel
set_option maxRecDepth 20000 in
theorem ggJx4a65c_init_da8c8_Jxc12de_init_da8c8 : GoodIn wsJx4a65c_init_da8c8 wsJxc12de_init_da8c8 := goodIn_r _ [6, 7, 8, 9, 10, 11, 12, 13, 14, 15, 16, 17] (by decide +kernel) (by decide +kernel)
set_option maxRecDepth 20000 in
theorem gJx4a65c_init_da8c8_Jxc12de_init_da8c8 : GoodIn wsJx4a65c_init_da8c8 (wsJxc12de_init_da8c8) := ggJx4a65c_init_da8c8_Jxc12de_init_da8c8
theorem dJx4a65c_init_da8c8_0 : decode cJx4a65c_init_da8c8 0 = .ok (.aload_n 0, 1) := by decide +kernel
theorem dJx4a65c_init_da8c8_1 : decode cJx4a65c_init_da8c8 1 = .ok (.invokespecial 1, 3) := by decide +kernel
theorem dJx4a65c_init_da8c8_4 : decode cJx4a65c_init_da8c8 4 = .ok (.aload_n 0, 1) := by decide +kernel
theorem dJx4a65c_init_da8c8_5 : decode cJx4a65c_init_da8c8 5 = .ok (.getstatic 39, 3) := by decide +kernel
theorem dJx4a65c_init_da8c8_8 : decode cJx4a65c_init_da8c8 8 = .ok (.putfield 9, 3) := by decide +kernel
theorem dJx4a65c_init_da8c8_11 : decode cJx4a65c_init_da8c8 11 = .ok (.return_, 1) := by decide +kernel
set_option maxRecDepth 20000 in
theorem ggJx4a65c_grow_92f84_J8_newLength_cabcc : GoodIn wsJx4a65c_grow_92f84 wsJ8_newLength_cabcc := goodIn_r _ [11, 12, 4, 5, 6, 13, 14, 15, 10, 16] (by decide +kernel) (by decide +kernel)
set_option maxRecDepth 20000 in
theorem gJx4a65c_grow_92f84_J8_newLength_cabcc : GoodIn wsJx4a65c_grow_92f84 (va_wsS RJx4a65c 73 yJ8_newLength_cabcc wsJ8_newLength_cabcc) := goodIn_app (goodIn_of _ (by decide +kernel)) ggJx4a65c_grow_92f84_J8_newLength_cabcc
set_option maxRecDepth 20000 in
theorem ggJx4a65c_grow_92f84_J7_copyOf_1904c : GoodIn wsJx4a65c_grow_92f84 wsJ7_copyOf_1904c := goodIn_r _ [20, 21, 22, 23, 24, 25, 26, 19, 27, 28, 29, 30, 31, 5, 32, 33, 34, 35, 36] (by decide +kernel) (by decide +kernel)
set_option maxRecDepth 20000 in
theorem gJx4a65c_grow_92f84_J7_copyOf_1904c : GoodIn wsJx4a65c_grow_92f84 (va_wsS RJx4a65c 66 yJ7_copyOf_1904c wsJ7_copyOf_1904c) := goodIn_app (goodIn_of _ (by decide +kernel)) ggJx4a65c_grow_92f84_J7_copyOf_1904c
theorem dJx4a65c_grow_92f84_0 : decode cJx4a65c_grow_92f84 0 = .ok (.aload_n 0, 1) := by decide +kernel
theorem dJx4a65c_grow_92f84_1 : decode cJx4a65c_grow_92f84 1 = .ok (.getfield 9, 3) := by decide +kernel
theorem dJx4a65c_grow_92f84_4 : decode cJx4a65c_grow_92f84 4 = .ok (.arraylength, 1) := by decide +kernel
theorem dJx4a65c_grow_92f84_5 : decode cJx4a65c_grow_92f84 5 = .ok (.istore_n 2, 1) := by decide +kernel
theorem dJx4a65c_grow_92f84_6 : decode cJx4a65c_grow_92f84 6 = .ok (.iload_n 2, 1) := by decide +kernel
theorem dJx4a65c_grow_92f84_7 : decode cJx4a65c_grow_92f84 7 = .ok (.ifCond .gt 13, 3) := by decide +kernel
theorem dJx4a65c_grow_92f84_10 : decode cJx4a65c_grow_92f84 10 = .ok (.aload_n 0, 1) := by decide +kernel
theorem dJx4a65c_grow_92f84_11 : decode cJx4a65c_grow_92f84 11 = .ok (.getfield 9, 3) := by decide +kernel
theorem dJx4a65c_grow_92f84_14 : decode cJx4a65c_grow_92f84 14 = .ok (.getstatic 39, 3) := by decide +kernel
theorem dJx4a65c_grow_92f84_17 : decode cJx4a65c_grow_92f84 17 = .ok (.if_acmp .eq 28, 3) := by decide +kernel
theorem dJx4a65c_grow_92f84_20 : decode cJx4a65c_grow_92f84 20 = .ok (.iload_n 2, 1) := by decide +kernel
theorem dJx4a65c_grow_92f84_21 : decode cJx4a65c_grow_92f84 21 = .ok (.iload_n 1, 1) := by decide +kernel
theorem dJx4a65c_grow_92f84_22 : decode cJx4a65c_grow_92f84 22 = .ok (.iload_n 2, 1) := by decide +kernel
theorem dJx4a65c_grow_92f84_23 : decode cJx4a65c_grow_92f84 23 = .ok (.isub, 1) := by decide +kernel
theorem dJx4a65c_grow_92f84_24 : decode cJx4a65c_grow_92f84 24 = .ok (.iload_n 2, 1) := by decide +kernel
theorem dJx4a65c_grow_92f84_25 : decode cJx4a65c_grow_92f84 25 = .ok (.iconst 1, 1) := by decide +kernel
theorem dJx4a65c_grow_92f84_26 : decode cJx4a65c_grow_92f84 26 = .ok (.ishr, 1) := by decide +kernel
theorem dJx4a65c_grow_92f84_27 : decode cJx4a65c_grow_92f84 27 = .ok (.invokestatic 73, 3) := by decide +kernel
theorem dJx4a65c_grow_92f84_30 : decode cJx4a65c_grow_92f84 30 = .ok (.istore_n 3, 1) := by decide +kernel
theorem dJx4a65c_grow_92f84_31 : decode cJx4a65c_grow_92f84 31 = .ok (.aload_n 0, 1) := by decide +kernel
theorem dJx4a65c_grow_92f84_32 : decode cJx4a65c_grow_92f84 32 = .ok (.aload_n 0, 1) := by decide +kernel
theorem dJx4a65c_grow_92f84_33 : decode cJx4a65c_grow_92f84 33 = .ok (.getfield 9, 3) := by decide +kernel
theorem dJx4a65c_grow_92f84_36 : decode cJx4a65c_grow_92f84 36 = .ok (.iload_n 3, 1) := by decide +kernel
theorem dJx4a65c_grow_92f84_37 : decode cJx4a65c_grow_92f84 37 = .ok (.invokestatic 66, 3) := by decide +kernel
theorem dJx4a65c_grow_92f84_40 : decode cJx4a65c_grow_92f84 40 = .ok (.dup_x1, 1) := by decide +kernel
theorem dJx4a65c_grow_92f84_41 : decode cJx4a65c_grow_92f84 41 = .ok (.putfield 9, 3) := by decide +kernel
theorem dJx4a65c_grow_92f84_44 : decode cJx4a65c_grow_92f84 44 = .ok (.areturn, 1) := by decide +kernel
theorem dJx4a65c_grow_92f84_45 : decode cJx4a65c_grow_92f84 45 = .ok (.aload_n 0, 1) := by decide +kernel
theorem dJx4a65c_grow_92f84_46 : decode cJx4a65c_grow_92f84 46 = .ok (.bipush 10, 2) := by decide +kernel
theorem dJx4a65c_grow_92f84_48 : decode cJx4a65c_grow_92f84 48 = .ok (.iload_n 1, 1) := by decide +kernel
theorem dJx4a65c_grow_92f84_49 : decode cJx4a65c_grow_92f84 49 = .ok (.invokestatic 79, 3) := by decide +kernel
theorem dJx4a65c_grow_92f84_52 : decode cJx4a65c_grow_92f84 52 = .ok (.anewarray 7, 3) := by decide +kernel
theorem dJx4a65c_grow_92f84_55 : decode cJx4a65c_grow_92f84 55 = .ok (.dup_x1, 1) := by decide +kernel
theorem dJx4a65c_grow_92f84_56 : decode cJx4a65c_grow_92f84 56 = .ok (.putfield 9, 3) := by decide +kernel
theorem dJx4a65c_grow_92f84_59 : decode cJx4a65c_grow_92f84 59 = .ok (.areturn, 1) := by decide +kernel
set_option maxRecDepth 20000 in
theorem ggJx4a65c_grow_d5877_Jx4a65c_grow_92f84 : GoodIn wsJx4a65c_grow_d5877 wsJx4a65c_grow_92f84 := goodIn_r _ [6, 7, 8, 9, 10, 11, 12, 13, 14, 15, 16, 17, 18, 19, 20, 21, 22, 23, 24, 25, 26, 27, 28, 29, 30, 31, 32, 33, 34, 35, 36, 37, 38, 39, 40, 41, 42, 43, 44, 45] (by decide +kernel) (by decide +kernel)
set_option maxRecDepth 20000 in
theorem gJx4a65c_grow_d5877_Jx4a65c_grow_92f84 : GoodIn wsJx4a65c_grow_d5877 (wsV RJx4a65c 69 RJx4a65c yJx4a65c_grow_92f84 wsJx4a65c_grow_92f84) := goodIn_app (goodIn_of _ (by decide +kernel)) ggJx4a65c_grow_d5877_Jx4a65c_grow_92f84
theorem dJx4a65c_grow_d5877_0 : decode cJx4a65c_grow_d5877 0 = .ok (.aload_n 0, 1) := by decide +kernel
theorem dJx4a65c_grow_d5877_1 : decode cJx4a65c_grow_d5877 1 = .ok (.aload_n 0, 1) := by decide +kernel
theorem dJx4a65c_grow_d5877_2 : decode cJx4a65c_grow_d5877 2 = .ok (.getfield 48, 3) := by decide +kernel
theorem dJx4a65c_grow_d5877_5 : decode cJx4a65c_grow_d5877 5 = .ok (.iconst 1, 1) := by decide +kernel
theorem dJx4a65c_grow_d5877_6 : decode cJx4a65c_grow_d5877 6 = .ok (.iadd, 1) := by decide +kernel
theorem dJx4a65c_grow_d5877_7 : decode cJx4a65c_grow_d5877 7 = .ok (.invokevirtual 69, 3) := by decide +kernel
theorem dJx4a65c_grow_d5877_10 : decode cJx4a65c_grow_d5877 10 = .ok (.areturn, 1) := by decide +kernel
theorem dJx4a65c_size_8abf5_0 : decode cJx4a65c_size_8abf5 0 = .ok (.aload_n 0, 1) := by decide +kernel
theorem dJx4a65c_size_8abf5_1 : decode cJx4a65c_size_8abf5 1 = .ok (.getfield 48, 3) := by decide +kernel
theorem dJx4a65c_size_8abf5_4 : decode cJx4a65c_size_8abf5 4 = .ok (.ireturn, 1) := by decide +kernel
theorem dJx4a65c_elementData_915e3_0 : decode cJx4a65c_elementData_915e3 0 = .ok (.aload_n 0, 1) := by decide +kernel
theorem dJx4a65c_elementData_915e3_1 : decode cJx4a65c_elementData_915e3 1 = .ok (.getfield 9, 3) := by decide +kernel
theorem dJx4a65c_elementData_915e3_4 : decode cJx4a65c_elementData_915e3 4 = .ok (.iload_n 1, 1) := by decide +kernel
theorem dJx4a65c_elementData_915e3_5 : decode cJx4a65c_elementData_915e3 5 = .ok (.aaload, 1) := by decide +kernel
theorem dJx4a65c_elementData_915e3_6 : decode cJx4a65c_elementData_915e3 6 = .ok (.areturn, 1) := by decide +kernel
set_option maxRecDepth 20000 in
theorem ggJx4a65c_get_915e3_J15_checkIndex_7cf53 : GoodIn wsJx4a65c_get_915e3 wsJ15_checkIndex_7cf53 := goodIn_r _ [5, 6, 7, 8, 9] (by decide +kernel) (by decide +kernel)
set_option maxRecDepth 20000 in
theorem gJx4a65c_get_915e3_J15_checkIndex_7cf53 : GoodIn wsJx4a65c_get_915e3 (va_wsS RJx4a65c 118 yJ15_checkIndex_7cf53 wsJ15_checkIndex_7cf53) := goodIn_app (goodIn_of _ (by decide +kernel)) ggJx4a65c_get_915e3_J15_checkIndex_7cf53
set_option maxRecDepth 20000 in
theorem ggJx4a65c_get_915e3_Jx4a65c_elementData_915e3 : GoodIn wsJx4a65c_get_915e3 wsJx4a65c_elementData_915e3 := goodIn_r _ [14, 15, 16, 17, 18] (by decide +kernel) (by decide +kernel)
set_option maxRecDepth 20000 in
theorem gJx4a65c_get_915e3_Jx4a65c_elementData_915e3 : GoodIn wsJx4a65c_get_915e3 (wsV RJx4a65c 123 RJx4a65c yJx4a65c_elementData_915e3 wsJx4a65c_elementData_915e3) := goodIn_app (goodIn_of _ (by decide +kernel)) ggJx4a65c_get_915e3_Jx4a65c_elementData_915e3
theorem dJx4a65c_get_915e3_0 : decode cJx4a65c_get_915e3 0 = .ok (.iload_n 1, 1) := by decide +kernel
theorem dJx4a65c_get_915e3_1 : decode cJx4a65c_get_915e3 1 = .ok (.aload_n 0, 1) := by decide +kernel
theorem dJx4a65c_get_915e3_2 : decode cJx4a65c_get_915e3 2 = .ok (.getfield 48, 3) := by decide +kernel
theorem dJx4a65c_get_915e3_5 : decode cJx4a65c_get_915e3 5 = .ok (.invokestatic 118, 3) := by decide +kernel
theorem dJx4a65c_get_915e3_8 : decode cJx4a65c_get_915e3 8 = .ok (.pop, 1) := by decide +kernel
theorem dJx4a65c_get_915e3_9 : decode cJx4a65c_get_915e3 9 = .ok (.aload_n 0, 1) := by decide +kernel
theorem dJx4a65c_get_915e3_10 : decode cJx4a65c_get_915e3 10 = .ok (.iload_n 1, 1) := by decide +kernel
theorem dJx4a65c_get_915e3_11 : decode cJx4a65c_get_915e3 11 = .ok (.invokevirtual 123, 3) := by decide +kernel
theorem dJx4a65c_get_915e3_14 : decode cJx4a65c_get_915e3 14 = .ok (.areturn, 1) := by decide +kernel
set_option maxRecDepth 20000 in
theorem ggJx4a65c_set_bcc79_J15_checkIndex_7cf53 : GoodIn wsJx4a65c_set_bcc79 wsJ15_checkIndex_7cf53 := goodIn_r _ [6, 7, 8, 9, 10] (by decide +kernel) (by decide +kernel)
set_option maxRecDepth 20000 in
theorem gJx4a65c_set_bcc79_J15_checkIndex_7cf53 : GoodIn wsJx4a65c_set_bcc79 (va_wsS RJx4a65c 118 yJ15_checkIndex_7cf53 wsJ15_checkIndex_7cf53) := goodIn_app (goodIn_of _ (by decide +kernel)) ggJx4a65c_set_bcc79_J15_checkIndex_7cf53
set_option maxRecDepth 20000 in
theorem ggJx4a65c_set_bcc79_Jx4a65c_elementData_915e3 : GoodIn wsJx4a65c_set_bcc79 wsJx4a65c_elementData_915e3 := goodIn_r _ [15, 2, 16, 17, 18] (by decide +kernel) (by decide +kernel)
set_option maxRecDepth 20000 in
theorem gJx4a65c_set_bcc79_Jx4a65c_elementData_915e3 : GoodIn wsJx4a65c_set_bcc79 (wsV RJx4a65c 123 RJx4a65c yJx4a65c_elementData_915e3 wsJx4a65c_elementData_915e3) := goodIn_app (goodIn_of _ (by decide +kernel)) ggJx4a65c_set_bcc79_Jx4a65c_elementData_915e3
theorem dJx4a65c_set_bcc79_0 : decode cJx4a65c_set_bcc79 0 = .ok (.iload_n 1, 1) := by decide +kernel
theorem dJx4a65c_set_bcc79_1 : decode cJx4a65c_set_bcc79 1 = .ok (.aload_n 0, 1) := by decide +kernel
theorem dJx4a65c_set_bcc79_2 : decode cJx4a65c_set_bcc79 2 = .ok (.getfield 48, 3) := by decide +kernel
theorem dJx4a65c_set_bcc79_5 : decode cJx4a65c_set_bcc79 5 = .ok (.invokestatic 118, 3) := by decide +kernel
theorem dJx4a65c_set_bcc79_8 : decode cJx4a65c_set_bcc79 8 = .ok (.pop, 1) := by decide +kernel
theorem dJx4a65c_set_bcc79_9 : decode cJx4a65c_set_bcc79 9 = .ok (.aload_n 0, 1) := by decide +kernel
theorem dJx4a65c_set_bcc79_10 : decode cJx4a65c_set_bcc79 10 = .ok (.iload_n 1, 1) := by decide +kernel
theorem dJx4a65c_set_bcc79_11 : decode cJx4a65c_set_bcc79 11 = .ok (.invokevirtual 123, 3) := by decide +kernel
theorem dJx4a65c_set_bcc79_14 : decode cJx4a65c_set_bcc79 14 = .ok (.astore_n 3, 1) := by decide +kernel
theorem dJx4a65c_set_bcc79_15 : decode cJx4a65c_set_bcc79 15 = .ok (.aload_n 0, 1) := by decide +kernel
theorem dJx4a65c_set_bcc79_16 : decode cJx4a65c_set_bcc79 16 = .ok (.getfield 9, 3) := by decide +kernel
theorem dJx4a65c_set_bcc79_19 : decode cJx4a65c_set_bcc79 19 = .ok (.iload_n 1, 1) := by decide +kernel
theorem dJx4a65c_set_bcc79_20 : decode cJx4a65c_set_bcc79 20 = .ok (.aload_n 2, 1) := by decide +kernel
theorem dJx4a65c_set_bcc79_21 : decode cJx4a65c_set_bcc79 21 = .ok (.aastore, 1) := by decide +kernel
theorem dJx4a65c_set_bcc79_22 : decode cJx4a65c_set_bcc79 22 = .ok (.aload_n 3, 1) := by decide +kernel
theorem dJx4a65c_set_bcc79_23 : decode cJx4a65c_set_bcc79 23 = .ok (.areturn, 1) := by decide +kernel
set_option maxRecDepth 20000 in
theorem ggJx4a65c_add_72be8_Jx4a65c_grow_d5877 : GoodIn wsJx4a65c_add_72be8 wsJx4a65c_grow_d5877 := goodIn_r _ [6, 1, 7, 8, 9, 5, 10, 11, 12, 13, 14, 15, 16, 17, 18, 19, 20, 21, 22, 23, 24, 25, 26, 27, 28, 29, 30, 31, 32, 33, 34, 35, 36, 37, 38, 39, 40, 41, 42, 43, 44, 45, 46, 47, 48, 49] (by decide +kernel) (by decide +kernel)
set_option maxRecDepth 20000 in
theorem gJx4a65c_add_72be8_Jx4a65c_grow_d5877 : GoodIn wsJx4a65c_add_72be8 (wsV RJx4a65c 129 RJx4a65c yJx4a65c_grow_d5877 wsJx4a65c_grow_d5877) := goodIn_app (goodIn_of _ (by decide +kernel)) ggJx4a65c_add_72be8_Jx4a65c_grow_d5877
theorem dJx4a65c_add_72be8_0 : decode cJx4a65c_add_72be8 0 = .ok (.iload_n 3, 1) := by decide +kernel
theorem dJx4a65c_add_72be8_1 : decode cJx4a65c_add_72be8 1 = .ok (.aload_n 2, 1) := by decide +kernel
theorem dJx4a65c_add_72be8_2 : decode cJx4a65c_add_72be8 2 = .ok (.arraylength, 1) := by decide +kernel
theorem dJx4a65c_add_72be8_3 : decode cJx4a65c_add_72be8 3 = .ok (.if_icmp .ne 8, 3) := by decide +kernel
theorem dJx4a65c_add_72be8_6 : decode cJx4a65c_add_72be8 6 = .ok (.aload_n 0, 1) := by decide +kernel
theorem dJx4a65c_add_72be8_7 : decode cJx4a65c_add_72be8 7 = .ok (.invokevirtual 129, 3) := by decide +kernel
theorem dJx4a65c_add_72be8_10 : decode cJx4a65c_add_72be8 10 = .ok (.astore_n 2, 1) := by decide +kernel
theorem dJx4a65c_add_72be8_11 : decode cJx4a65c_add_72be8 11 = .ok (.aload_n 2, 1) := by decide +kernel
theorem dJx4a65c_add_72be8_12 : decode cJx4a65c_add_72be8 12 = .ok (.iload_n 3, 1) := by decide +kernel
theorem dJx4a65c_add_72be8_13 : decode cJx4a65c_add_72be8 13 = .ok (.aload_n 1, 1) := by decide +kernel
theorem dJx4a65c_add_72be8_14 : decode cJx4a65c_add_72be8 14 = .ok (.aastore, 1) := by decide +kernel
theorem dJx4a65c_add_72be8_15 : decode cJx4a65c_add_72be8 15 = .ok (.aload_n 0, 1) := by decide +kernel
theorem dJx4a65c_add_72be8_16 : decode cJx4a65c_add_72be8 16 = .ok (.iload_n 3, 1) := by decide +kernel
theorem dJx4a65c_add_72be8_17 : decode cJx4a65c_add_72be8 17 = .ok (.iconst 1, 1) := by decide +kernel
theorem dJx4a65c_add_72be8_18 : decode cJx4a65c_add_72be8 18 = .ok (.iadd, 1) := by decide +kernel
theorem dJx4a65c_add_72be8_19 : decode cJx4a65c_add_72be8 19 = .ok (.putfield 48, 3) := by decide +kernel
theorem dJx4a65c_add_72be8_22 : decode cJx4a65c_add_72be8 22 = .ok (.return_, 1) := by decide +kernel
set_option maxRecDepth 20000 in
theorem ggJx4a65c_add_9ea2d_Jx4a65c_add_72be8 : GoodIn wsJx4a65c_add_9ea2d wsJx4a65c_add_72be8 := goodIn_r _ [9, 4, 10, 11, 12, 8, 13, 14, 15, 16, 17, 3, 18, 19, 20, 21, 22, 23, 24, 25, 26, 27, 28, 29, 30, 31, 32, 33, 34, 35, 36, 37, 38, 39, 40, 41, 42, 43, 44, 45, 46, 47, 48, 49, 50, 51, 52, 53, 54, 55] (by decide +kernel) (by decide +kernel)
set_option maxRecDepth 20000 in
theorem gJx4a65c_add_9ea2d_Jx4a65c_add_72be8 : GoodIn wsJx4a65c_add_9ea2d (wsV RJx4a65c 131 RJx4a65c yJx4a65c_add_72be8 wsJx4a65c_add_72be8) := goodIn_app (goodIn_of _ (by decide +kernel)) ggJx4a65c_add_9ea2d_Jx4a65c_add_72be8
theorem dJx4a65c_add_9ea2d_0 : decode cJx4a65c_add_9ea2d 0 = .ok (.aload_n 0, 1) := by decide +kernel
theorem dJx4a65c_add_9ea2d_1 : decode cJx4a65c_add_9ea2d 1 = .ok (.dup, 1) := by decide +kernel
theorem dJx4a65c_add_9ea2d_2 : decode cJx4a65c_add_9ea2d 2 = .ok (.getfield 63, 3) := by decide +kernel
theorem dJx4a65c_add_9ea2d_5 : decode cJx4a65c_add_9ea2d 5 = .ok (.iconst 1, 1) := by decide +kernel
theorem dJx4a65c_add_9ea2d_6 : decode cJx4a65c_add_9ea2d 6 = .ok (.iadd, 1) := by decide +kernel
theorem dJx4a65c_add_9ea2d_7 : decode cJx4a65c_add_9ea2d 7 = .ok (.putfield 63, 3) := by decide +kernel
theorem dJx4a65c_add_9ea2d_10 : decode cJx4a65c_add_9ea2d 10 = .ok (.aload_n 0, 1) := by decide +kernel
theorem dJx4a65c_add_9ea2d_11 : decode cJx4a65c_add_9ea2d 11 = .ok (.aload_n 1, 1) := by decide +kernel
theorem dJx4a65c_add_9ea2d_12 : decode cJx4a65c_add_9ea2d 12 = .ok (.aload_n 0, 1) := by decide +kernel
theorem dJx4a65c_add_9ea2d_13 : decode cJx4a65c_add_9ea2d 13 = .ok (.getfield 9, 3) := by decide +kernel
theorem dJx4a65c_add_9ea2d_16 : decode cJx4a65c_add_9ea2d 16 = .ok (.aload_n 0, 1) := by decide +kernel
theorem dJx4a65c_add_9ea2d_17 : decode cJx4a65c_add_9ea2d 17 = .ok (.getfield 48, 3) := by decide +kernel
theorem dJx4a65c_add_9ea2d_20 : decode cJx4a65c_add_9ea2d 20 = .ok (.invokevirtual 131, 3) := by decide +kernel
theorem dJx4a65c_add_9ea2d_23 : decode cJx4a65c_add_9ea2d 23 = .ok (.iconst 1, 1) := by decide +kernel
theorem dJx4a65c_add_9ea2d_24 : decode cJx4a65c_add_9ea2d 24 = .ok (.ireturn, 1) := by decide +kernel
set_option maxRecDepth 20000 in
theorem ggJx4a65c_remove_915e3_J15_checkIndex_7cf53 : GoodIn wsJx4a65c_remove_915e3 wsJ15_checkIndex_7cf53 := goodIn_r _ [6, 7, 8, 9, 10] (by decide +kernel) (by decide +kernel)
set_option maxRecDepth 20000 in
theorem gJx4a65c_remove_915e3_J15_checkIndex_7cf53 : GoodIn wsJx4a65c_remove_915e3 (va_wsS RJx4a65c 118 yJ15_checkIndex_7cf53 wsJ15_checkIndex_7cf53) := goodIn_app (goodIn_of _ (by decide +kernel)) ggJx4a65c_remove_915e3_J15_checkIndex_7cf53
set_option maxRecDepth 20000 in
theorem ggJx4a65c_remove_915e3_Jx4a65c_fastRemove_b59b0 : GoodIn wsJx4a65c_remove_915e3 wsJx4a65c_fastRemove_b59b0 := goodIn_r _ [15, 16, 17, 1, 18, 19, 20, 21, 22, 23, 24] (by decide +kernel) (by decide +kernel)
set_option maxRecDepth 20000 in
theorem gJx4a65c_remove_915e3_Jx4a65c_fastRemove_b59b0 : GoodIn wsJx4a65c_remove_915e3 (wsV RJx4a65c 144 RJx4a65c yJx4a65c_fastRemove_b59b0 wsJx4a65c_fastRemove_b59b0) := goodIn_app (goodIn_of _ (by decide +kernel)) ggJx4a65c_remove_915e3_Jx4a65c_fastRemove_b59b0
theorem dJx4a65c_remove_915e3_0 : decode cJx4a65c_remove_915e3 0 = .ok (.iload_n 1, 1) := by decide +kernel
theorem dJx4a65c_remove_915e3_1 : decode cJx4a65c_remove_915e3 1 = .ok (.aload_n 0, 1) := by decide +kernel
theorem dJx4a65c_remove_915e3_2 : decode cJx4a65c_remove_915e3 2 = .ok (.getfield 48, 3) := by decide +kernel
theorem dJx4a65c_remove_915e3_5 : decode cJx4a65c_remove_915e3 5 = .ok (.invokestatic 118, 3) := by decide +kernel
theorem dJx4a65c_remove_915e3_8 : decode cJx4a65c_remove_915e3 8 = .ok (.pop, 1) := by decide +kernel
theorem dJx4a65c_remove_915e3_9 : decode cJx4a65c_remove_915e3 9 = .ok (.aload_n 0, 1) := by decide +kernel
theorem dJx4a65c_remove_915e3_10 : decode cJx4a65c_remove_915e3 10 = .ok (.getfield 9, 3) := by decide +kernel
theorem dJx4a65c_remove_915e3_13 : decode cJx4a65c_remove_915e3 13 = .ok (.astore_n 2, 1) := by decide +kernel
theorem dJx4a65c_remove_915e3_14 : decode cJx4a65c_remove_915e3 14 = .ok (.aload_n 2, 1) := by decide +kernel
theorem dJx4a65c_remove_915e3_15 : decode cJx4a65c_remove_915e3 15 = .ok (.iload_n 1, 1) := by decide +kernel
theorem dJx4a65c_remove_915e3_16 : decode cJx4a65c_remove_915e3 16 = .ok (.aaload, 1) := by decide +kernel
theorem dJx4a65c_remove_915e3_17 : decode cJx4a65c_remove_915e3 17 = .ok (.astore_n 3, 1) := by decide +kernel
theorem dJx4a65c_remove_915e3_18 : decode cJx4a65c_remove_915e3 18 = .ok (.aload_n 0, 1) := by decide +kernel
theorem dJx4a65c_remove_915e3_19 : decode cJx4a65c_remove_915e3 19 = .ok (.aload_n 2, 1) := by decide +kernel
theorem dJx4a65c_remove_915e3_20 : decode cJx4a65c_remove_915e3 20 = .ok (.iload_n 1, 1) := by decide +kernel
theorem dJx4a65c_remove_915e3_21 : decode cJx4a65c_remove_915e3 21 = .ok (.invokevirtual 144, 3) := by decide +kernel
theorem dJx4a65c_remove_915e3_24 : decode cJx4a65c_remove_915e3 24 = .ok (.aload_n 3, 1) := by decide +kernel
theorem dJx4a65c_remove_915e3_25 : decode cJx4a65c_remove_915e3 25 = .ok (.areturn, 1) := by decide +kernel
theorem dJx4a65c_fastRemove_b59b0_0 : decode cJx4a65c_fastRemove_b59b0 0 = .ok (.aload_n 0, 1) := by decide +kernel
theorem dJx4a65c_fastRemove_b59b0_1 : decode cJx4a65c_fastRemove_b59b0 1 = .ok (.dup, 1) := by decide +kernel
theorem dJx4a65c_fastRemove_b59b0_2 : decode cJx4a65c_fastRemove_b59b0 2 = .ok (.getfield 63, 3) := by decide +kernel
theorem dJx4a65c_fastRemove_b59b0_5 : decode cJx4a65c_fastRemove_b59b0 5 = .ok (.iconst 1, 1) := by decide +kernel
theorem dJx4a65c_fastRemove_b59b0_6 : decode cJx4a65c_fastRemove_b59b0 6 = .ok (.iadd, 1) := by decide +kernel
theorem dJx4a65c_fastRemove_b59b0_7 : decode cJx4a65c_fastRemove_b59b0 7 = .ok (.putfield 63, 3) := by decide +kernel
theorem dJx4a65c_fastRemove_b59b0_10 : decode cJx4a65c_fastRemove_b59b0 10 = .ok (.aload_n 0, 1) := by decide +kernel
theorem dJx4a65c_fastRemove_b59b0_11 : decode cJx4a65c_fastRemove_b59b0 11 = .ok (.getfield 48, 3) := by decide +kernel
theorem dJx4a65c_fastRemove_b59b0_14 : decode cJx4a65c_fastRemove_b59b0 14 = .ok (.iconst 1, 1) := by decide +kernel
theorem dJx4a65c_fastRemove_b59b0_15 : decode cJx4a65c_fastRemove_b59b0 15 = .ok (.isub, 1) := by decide +kernel
theorem dJx4a65c_fastRemove_b59b0_16 : decode cJx4a65c_fastRemove_b59b0 16 = .ok (.dup, 1) := by decide +kernel
theorem dJx4a65c_fastRemove_b59b0_17 : decode cJx4a65c_fastRemove_b59b0 17 = .ok (.istore_n 3, 1) := by decide +kernel
theorem dJx4a65c_fastRemove_b59b0_18 : decode cJx4a65c_fastRemove_b59b0 18 = .ok (.iload_n 2, 1) := by decide +kernel
theorem dJx4a65c_fastRemove_b59b0_19 : decode cJx4a65c_fastRemove_b59b0 19 = .ok (.if_icmp .le 15, 3) := by decide +kernel
theorem dJx4a65c_fastRemove_b59b0_22 : decode cJx4a65c_fastRemove_b59b0 22 = .ok (.aload_n 1, 1) := by decide +kernel
theorem dJx4a65c_fastRemove_b59b0_23 : decode cJx4a65c_fastRemove_b59b0 23 = .ok (.iload_n 2, 1) := by decide +kernel
theorem dJx4a65c_fastRemove_b59b0_24 : decode cJx4a65c_fastRemove_b59b0 24 = .ok (.iconst 1, 1) := by decide +kernel
theorem dJx4a65c_fastRemove_b59b0_25 : decode cJx4a65c_fastRemove_b59b0 25 = .ok (.iadd, 1) := by decide +kernel
theorem dJx4a65c_fastRemove_b59b0_26 : decode cJx4a65c_fastRemove_b59b0 26 = .ok (.aload_n 1, 1) := by decide +kernel
theorem dJx4a65c_fastRemove_b59b0_27 : decode cJx4a65c_fastRemove_b59b0 27 = .ok (.iload_n 2, 1) := by decide +kernel
theorem dJx4a65c_fastRemove_b59b0_28 : decode cJx4a65c_fastRemove_b59b0 28 = .ok (.iload_n 3, 1) := by decide +kernel
theorem dJx4a65c_fastRemove_b59b0_29 : decode cJx4a65c_fastRemove_b59b0 29 = .ok (.iload_n 2, 1) := by decide +kernel
theorem dJx4a65c_fastRemove_b59b0_30 : decode cJx4a65c_fastRemove_b59b0 30 = .ok (.isub, 1) := by decide +kernel
theorem dJx4a65c_fastRemove_b59b0_31 : decode cJx4a65c_fastRemove_b59b0 31 = .ok (.invokestatic 112, 3) := by decide +kernel
theorem dJx4a65c_fastRemove_b59b0_34 : decode cJx4a65c_fastRemove_b59b0 34 = .ok (.aload_n 1, 1) := by decide +kernel
theorem dJx4a65c_fastRemove_b59b0_35 : decode cJx4a65c_fastRemove_b59b0 35 = .ok (.aload_n 0, 1) := by decide +kernel
theorem dJx4a65c_fastRemove_b59b0_36 : decode cJx4a65c_fastRemove_b59b0 36 = .ok (.iload_n 3, 1) := by decide +kernel
theorem dJx4a65c_fastRemove_b59b0_37 : decode cJx4a65c_fastRemove_b59b0 37 = .ok (.dup_x1, 1) := by decide +kernel
theorem dJx4a65c_fastRemove_b59b0_38 : decode cJx4a65c_fastRemove_b59b0 38 = .ok (.putfield 48, 3) := by decide +kernel
theorem dJx4a65c_fastRemove_b59b0_41 : decode cJx4a65c_fastRemove_b59b0 41 = .ok (.aconst_null, 1) := by decide +kernel
theorem dJx4a65c_fastRemove_b59b0_42 : decode cJx4a65c_fastRemove_b59b0 42 = .ok (.aastore, 1) := by decide +kernel
theorem dJx4a65c_fastRemove_b59b0_43 : decode cJx4a65c_fastRemove_b59b0 43 = .ok (.return_, 1) := by decide +kernel
theorem dJx4a65c_clear_da8c8_0 : decode cJx4a65c_clear_da8c8 0 = .ok (.aload_n 0, 1) := by decide +kernel
theorem dJx4a65c_clear_da8c8_1 : decode cJx4a65c_clear_da8c8 1 = .ok (.dup, 1) := by decide +kernel
theorem dJx4a65c_clear_da8c8_2 : decode cJx4a65c_clear_da8c8 2 = .ok (.getfield 63, 3) := by decide +kernel
theorem dJx4a65c_clear_da8c8_5 : decode cJx4a65c_clear_da8c8 5 = .ok (.iconst 1, 1) := by decide +kernel
theorem dJx4a65c_clear_da8c8_6 : decode cJx4a65c_clear_da8c8 6 = .ok (.iadd, 1) := by decide +kernel
theorem dJx4a65c_clear_da8c8_7 : decode cJx4a65c_clear_da8c8 7 = .ok (.putfield 63, 3) := by decide +kernel
theorem dJx4a65c_clear_da8c8_10 : decode cJx4a65c_clear_da8c8 10 = .ok (.aload_n 0, 1) := by decide +kernel
theorem dJx4a65c_clear_da8c8_11 : decode cJx4a65c_clear_da8c8 11 = .ok (.getfield 9, 3) := by decide +kernel
theorem dJx4a65c_clear_da8c8_14 : decode cJx4a65c_clear_da8c8 14 = .ok (.astore_n 1, 1) := by decide +kernel
theorem dJx4a65c_clear_da8c8_15 : decode cJx4a65c_clear_da8c8 15 = .ok (.aload_n 0, 1) := by decide +kernel
theorem dJx4a65c_clear_da8c8_16 : decode cJx4a65c_clear_da8c8 16 = .ok (.getfield 48, 3) := by decide +kernel
theorem dJx4a65c_clear_da8c8_19 : decode cJx4a65c_clear_da8c8 19 = .ok (.istore_n 2, 1) := by decide +kernel
theorem dJx4a65c_clear_da8c8_20 : decode cJx4a65c_clear_da8c8 20 = .ok (.aload_n 0, 1) := by decide +kernel
theorem dJx4a65c_clear_da8c8_21 : decode cJx4a65c_clear_da8c8 21 = .ok (.iconst 0, 1) := by decide +kernel
theorem dJx4a65c_clear_da8c8_22 : decode cJx4a65c_clear_da8c8 22 = .ok (.dup_x1, 1) := by decide +kernel
theorem dJx4a65c_clear_da8c8_23 : decode cJx4a65c_clear_da8c8 23 = .ok (.putfield 48, 3) := by decide +kernel
theorem dJx4a65c_clear_da8c8_26 : decode cJx4a65c_clear_da8c8 26 = .ok (.istore_n 3, 1) := by decide +kernel
theorem dJx4a65c_clear_da8c8_27 : decode cJx4a65c_clear_da8c8 27 = .ok (.iload_n 3, 1) := by decide +kernel
theorem dJx4a65c_clear_da8c8_28 : decode cJx4a65c_clear_da8c8 28 = .ok (.iload_n 2, 1) := by decide +kernel
theorem dJx4a65c_clear_da8c8_29 : decode cJx4a65c_clear_da8c8 29 = .ok (.if_icmp .ge 13, 3) := by decide +kernel
theorem dJx4a65c_clear_da8c8_32 : decode cJx4a65c_clear_da8c8 32 = .ok (.aload_n 1, 1) := by decide +kernel
theorem dJx4a65c_clear_da8c8_33 : decode cJx4a65c_clear_da8c8 33 = .ok (.iload_n 3, 1) := by decide +kernel
theorem dJx4a65c_clear_da8c8_34 : decode cJx4a65c_clear_da8c8 34 = .ok (.aconst_null, 1) := by decide +kernel
theorem dJx4a65c_clear_da8c8_35 : decode cJx4a65c_clear_da8c8 35 = .ok (.aastore, 1) := by decide +kernel
theorem dJx4a65c_clear_da8c8_36 : decode cJx4a65c_clear_da8c8 36 = .ok (.iinc 3 1, 3) := by decide +kernel
theorem dJx4a65c_clear_da8c8_39 : decode cJx4a65c_clear_da8c8 39 = .ok (.goto (-12), 3) := by decide +kernel
theorem dJx4a65c_clear_da8c8_42 : decode cJx4a65c_clear_da8c8 42 = .ok (.return_, 1) := by decide +kernel
set_option maxRecDepth 20000 in
theorem ggJ7_copyOf_1904c_J7_copyOf_6403c : GoodIn wsJ7_copyOf_1904c wsJ7_copyOf_6403c := goodIn_r _ [8, 9, 10, 11, 12, 13, 14, 15, 16, 17, 18] (by decide +kernel) (by decide +kernel)
set_option maxRecDepth 20000 in
theorem gJ7_copyOf_1904c_J7_copyOf_6403c : GoodIn wsJ7_copyOf_1904c (va_wsS RJ7 300 yJ7_copyOf_6403c wsJ7_copyOf_6403c) := goodIn_app (goodIn_of _ (by decide +kernel)) ggJ7_copyOf_1904c_J7_copyOf_6403c
theorem dJ7_copyOf_1904c_0 : decode cJ7_copyOf_1904c 0 = .ok (.aload_n 0, 1) := by decide +kernel
theorem dJ7_copyOf_1904c_1 : decode cJ7_copyOf_1904c 1 = .ok (.iload_n 1, 1) := by decide +kernel
theorem dJ7_copyOf_1904c_2 : decode cJ7_copyOf_1904c 2 = .ok (.aload_n 0, 1) := by decide +kernel
theorem dJ7_copyOf_1904c_3 : decode cJ7_copyOf_1904c 3 = .ok (.invokevirtual 86, 3) := by decide +kernel
theorem dJ7_copyOf_1904c_6 : decode cJ7_copyOf_1904c 6 = .ok (.invokestatic 300, 3) := by decide +kernel
theorem dJ7_copyOf_1904c_9 : decode cJ7_copyOf_1904c 9 = .ok (.areturn, 1) := by decide +kernel
theorem dJ7_copyOf_6403c_0 : decode cJ7_copyOf_6403c 0 = .ok (.aload_n 2, 1) := by decide +kernel
theorem dJ7_copyOf_6403c_1 : decode cJ7_copyOf_6403c 1 = .ok (.ldc 110, 2) := by decide +kernel
theorem dJ7_copyOf_6403c_3 : decode cJ7_copyOf_6403c 3 = .ok (.if_acmp .ne 10, 3) := by decide +kernel
theorem dJ7_copyOf_6403c_6 : decode cJ7_copyOf_6403c 6 = .ok (.iload_n 1, 1) := by decide +kernel
theorem dJ7_copyOf_6403c_7 : decode cJ7_copyOf_6403c 7 = .ok (.anewarray 2, 3) := by decide +kernel
theorem dJ7_copyOf_6403c_10 : decode cJ7_copyOf_6403c 10 = .ok (.goto 14, 3) := by decide +kernel
theorem dJ7_copyOf_6403c_13 : decode cJ7_copyOf_6403c 13 = .ok (.aload_n 2, 1) := by decide +kernel
theorem dJ7_copyOf_6403c_14 : decode cJ7_copyOf_6403c 14 = .ok (.invokevirtual 90, 3) := by decide +kernel
theorem dJ7_copyOf_6403c_17 : decode cJ7_copyOf_6403c 17 = .ok (.iload_n 1, 1) := by decide +kernel
theorem dJ7_copyOf_6403c_18 : decode cJ7_copyOf_6403c 18 = .ok (.invokestatic 95, 3) := by decide +kernel
theorem dJ7_copyOf_6403c_21 : decode cJ7_copyOf_6403c 21 = .ok (.checkcast 110, 3) := by decide +kernel
theorem dJ7_copyOf_6403c_24 : decode cJ7_copyOf_6403c 24 = .ok (.astore_n 3, 1) := by decide +kernel
theorem dJ7_copyOf_6403c_25 : decode cJ7_copyOf_6403c 25 = .ok (.aload_n 0, 1) := by decide +kernel
theorem dJ7_copyOf_6403c_26 : decode cJ7_copyOf_6403c 26 = .ok (.iconst 0, 1) := by decide +kernel
theorem dJ7_copyOf_6403c_27 : decode cJ7_copyOf_6403c 27 = .ok (.aload_n 3, 1) := by decide +kernel
theorem dJ7_copyOf_6403c_28 : decode cJ7_copyOf_6403c 28 = .ok (.iconst 0, 1) := by decide +kernel
theorem dJ7_copyOf_6403c_29 : decode cJ7_copyOf_6403c 29 = .ok (.aload_n 0, 1) := by decide +kernel
theorem dJ7_copyOf_6403c_30 : decode cJ7_copyOf_6403c 30 = .ok (.arraylength, 1) := by decide +kernel
theorem dJ7_copyOf_6403c_31 : decode cJ7_copyOf_6403c 31 = .ok (.iload_n 1, 1) := by decide +kernel
theorem dJ7_copyOf_6403c_32 : decode cJ7_copyOf_6403c 32 = .ok (.invokestatic 304, 3) := by decide +kernel
theorem dJ7_copyOf_6403c_35 : decode cJ7_copyOf_6403c 35 = .ok (.invokestatic 150, 3) := by decide +kernel
theorem dJ7_copyOf_6403c_38 : decode cJ7_copyOf_6403c 38 = .ok (.aload_n 3, 1) := by decide +kernel
theorem dJ7_copyOf_6403c_39 : decode cJ7_copyOf_6403c 39 = .ok (.areturn, 1) := by decide +kernel
set_option maxRecDepth 20000 in
theorem ggJ15_checkIndex_7cf53_J3_checkIndex_8e157 : GoodIn wsJ15_checkIndex_7cf53 wsJ3_checkIndex_8e157 := goodIn_r _ [4] (by decide +kernel) (by decide +kernel)
set_option maxRecDepth 20000 in
theorem gJ15_checkIndex_7cf53_J3_checkIndex_8e157 : GoodIn wsJ15_checkIndex_7cf53 (va_wsS RJ15 105 yJ3_checkIndex_8e157 wsJ3_checkIndex_8e157) := goodIn_app (goodIn_of _ (by decide +kernel)) ggJ15_checkIndex_7cf53_J3_checkIndex_8e157
theorem dJ15_checkIndex_7cf53_0 : decode cJ15_checkIndex_7cf53 0 = .ok (.iload_n 0, 1) := by decide +kernel
theorem dJ15_checkIndex_7cf53_1 : decode cJ15_checkIndex_7cf53 1 = .ok (.iload_n 1, 1) := by decide +kernel
theorem dJ15_checkIndex_7cf53_2 : decode cJ15_checkIndex_7cf53 2 = .ok (.aconst_null, 1) := by decide +kernel
theorem dJ15_checkIndex_7cf53_3 : decode cJ15_checkIndex_7cf53 3 = .ok (.invokestatic 105, 3) := by decide +kernel
theorem dJ15_checkIndex_7cf53_6 : decode cJ15_checkIndex_7cf53 6 = .ok (.ireturn, 1) := by decide +kernel
set_option maxRecDepth 20000 in
theorem ggJ8_newLength_cabcc_J8_hugeLength_7cf53 : GoodIn wsJ8_newLength_cabcc wsJ8_hugeLength_7cf53 := goodIn_r _ [9, 5] (by decide +kernel) (by decide +kernel)
set_option maxRecDepth 20000 in
theorem gJ8_newLength_cabcc_J8_hugeLength_7cf53 : GoodIn wsJ8_newLength_cabcc (va_wsS RJ8 201 yJ8_hugeLength_7cf53 wsJ8_hugeLength_7cf53) := goodIn_app (goodIn_of _ (by decide +kernel)) ggJ8_newLength_cabcc_J8_hugeLength_7cf53
theorem dJ8_newLength_cabcc_0 : decode cJ8_newLength_cabcc 0 = .ok (.iload_n 0, 1) := by decide +kernel
theorem dJ8_newLength_cabcc_1 : decode cJ8_newLength_cabcc 1 = .ok (.iload_n 1, 1) := by decide +kernel
theorem dJ8_newLength_cabcc_2 : decode cJ8_newLength_cabcc 2 = .ok (.iload_n 2, 1) := by decide +kernel
theorem dJ8_newLength_cabcc_3 : decode cJ8_newLength_cabcc 3 = .ok (.invokestatic 194, 3) := by decide +kernel
theorem dJ8_newLength_cabcc_6 : decode cJ8_newLength_cabcc 6 = .ok (.iadd, 1) := by decide +kernel
theorem dJ8_newLength_cabcc_7 : decode cJ8_newLength_cabcc 7 = .ok (.istore_n 3, 1) := by decide +kernel
theorem dJ8_newLength_cabcc_8 : decode cJ8_newLength_cabcc 8 = .ok (.iconst 0, 1) := by decide +kernel
theorem dJ8_newLength_cabcc_9 : decode cJ8_newLength_cabcc 9 = .ok (.iload_n 3, 1) := by decide +kernel
theorem dJ8_newLength_cabcc_10 : decode cJ8_newLength_cabcc 10 = .ok (.if_icmp .ge 11, 3) := by decide +kernel
theorem dJ8_newLength_cabcc_13 : decode cJ8_newLength_cabcc 13 = .ok (.iload_n 3, 1) := by decide +kernel
theorem dJ8_newLength_cabcc_14 : decode cJ8_newLength_cabcc 14 = .ok (.ldc 200, 2) := by decide +kernel
theorem dJ8_newLength_cabcc_16 : decode cJ8_newLength_cabcc 16 = .ok (.if_icmp .gt 5, 3) := by decide +kernel
theorem dJ8_newLength_cabcc_19 : decode cJ8_newLength_cabcc 19 = .ok (.iload_n 3, 1) := by decide +kernel
theorem dJ8_newLength_cabcc_20 : decode cJ8_newLength_cabcc 20 = .ok (.ireturn, 1) := by decide +kernel
theorem dJ8_newLength_cabcc_21 : decode cJ8_newLength_cabcc 21 = .ok (.iload_n 0, 1) := by decide +kernel
theorem dJ8_newLength_cabcc_22 : decode cJ8_newLength_cabcc 22 = .ok (.iload_n 1, 1) := by decide +kernel
theorem dJ8_newLength_cabcc_23 : decode cJ8_newLength_cabcc 23 = .ok (.invokestatic 201, 3) := by decide +kernel
theorem dJ8_newLength_cabcc_26 : decode cJ8_newLength_cabcc 26 = .ok (.ireturn, 1) := by decide +kernel
theorem dJ8_hugeLength_7cf53_0 : decode cJ8_hugeLength_7cf53 0 = .ok (.iload_n 0, 1) := by decide +kernel
theorem dJ8_hugeLength_7cf53_1 : decode cJ8_hugeLength_7cf53 1 = .ok (.iload_n 1, 1) := by decide +kernel
theorem dJ8_hugeLength_7cf53_2 : decode cJ8_hugeLength_7cf53 2 = .ok (.iadd, 1) := by decide +kernel
theorem dJ8_hugeLength_7cf53_3 : decode cJ8_hugeLength_7cf53 3 = .ok (.istore_n 2, 1) := by decide +kernel
theorem dJ8_hugeLength_7cf53_4 : decode cJ8_hugeLength_7cf53 4 = .ok (.iload_n 2, 1) := by decide +kernel
theorem dJ8_hugeLength_7cf53_5 : decode cJ8_hugeLength_7cf53 5 = .ok (.ifCond .ge 44, 3) := by decide +kernel
theorem dJ8_hugeLength_7cf53_8 : decode cJ8_hugeLength_7cf53 8 = .ok (.new 204, 3) := by decide +kernel
theorem dJ8_hugeLength_7cf53_11 : decode cJ8_hugeLength_7cf53 11 = .ok (.dup, 1) := by decide +kernel
theorem dJ8_hugeLength_7cf53_12 : decode cJ8_hugeLength_7cf53 12 = .ok (.new 89, 3) := by decide +kernel
theorem dJ8_hugeLength_7cf53_15 : decode cJ8_hugeLength_7cf53 15 = .ok (.dup, 1) := by decide +kernel
theorem dJ8_hugeLength_7cf53_16 : decode cJ8_hugeLength_7cf53 16 = .ok (.invokespecial 91, 3) := by decide +kernel
theorem dJ8_hugeLength_7cf53_19 : decode cJ8_hugeLength_7cf53 19 = .ok (.ldc 206, 2) := by decide +kernel
theorem dJ8_hugeLength_7cf53_21 : decode cJ8_hugeLength_7cf53 21 = .ok (.invokevirtual 94, 3) := by decide +kernel
theorem dJ8_hugeLength_7cf53_24 : decode cJ8_hugeLength_7cf53 24 = .ok (.iload_n 0, 1) := by decide +kernel
theorem dJ8_hugeLength_7cf53_25 : decode cJ8_hugeLength_7cf53 25 = .ok (.invokevirtual 98, 3) := by decide +kernel
theorem dJ8_hugeLength_7cf53_28 : decode cJ8_hugeLength_7cf53 28 = .ok (.ldc 208, 2) := by decide +kernel
theorem dJ8_hugeLength_7cf53_30 : decode cJ8_hugeLength_7cf53 30 = .ok (.invokevirtual 94, 3) := by decide +kernel
theorem dJ8_hugeLength_7cf53_33 : decode cJ8_hugeLength_7cf53 33 = .ok (.iload_n 1, 1) := by decide +kernel
theorem dJ8_hugeLength_7cf53_34 : decode cJ8_hugeLength_7cf53 34 = .ok (.invokevirtual 98, 3) := by decide +kernel
theorem dJ8_hugeLength_7cf53_37 : decode cJ8_hugeLength_7cf53 37 = .ok (.ldc 210, 2) := by decide +kernel
theorem dJ8_hugeLength_7cf53_39 : decode cJ8_hugeLength_7cf53 39 = .ok (.invokevirtual 94, 3) := by decide +kernel
theorem dJ8_hugeLength_7cf53_42 : decode cJ8_hugeLength_7cf53 42 = .ok (.invokevirtual 101, 3) := by decide +kernel
theorem dJ8_hugeLength_7cf53_45 : decode cJ8_hugeLength_7cf53 45 = .ok (.invokespecial 212, 3) := by decide +kernel
theorem dJ8_hugeLength_7cf53_48 : decode cJ8_hugeLength_7cf53 48 = .ok (.athrow, 1) := by decide +kernel
theorem dJ8_hugeLength_7cf53_49 : decode cJ8_hugeLength_7cf53 49 = .ok (.iload_n 2, 1) := by decide +kernel
theorem dJ8_hugeLength_7cf53_50 : decode cJ8_hugeLength_7cf53 50 = .ok (.ldc 200, 2) := by decide +kernel
theorem dJ8_hugeLength_7cf53_52 : decode cJ8_hugeLength_7cf53 52 = .ok (.if_icmp .gt 6, 3) := by decide +kernel
theorem dJ8_hugeLength_7cf53_55 : decode cJ8_hugeLength_7cf53 55 = .ok (.ldc 200, 2) := by decide +kernel
theorem dJ8_hugeLength_7cf53_57 : decode cJ8_hugeLength_7cf53 57 = .ok (.ireturn, 1) := by decide +kernel
theorem dJ8_hugeLength_7cf53_58 : decode cJ8_hugeLength_7cf53 58 = .ok (.iload_n 2, 1) := by decide +kernel
theorem dJ8_hugeLength_7cf53_59 : decode cJ8_hugeLength_7cf53 59 = .ok (.ireturn, 1) := by decide +kernel
theorem dJ3_checkIndex_8e157_0 : decode cJ3_checkIndex_8e157 0 = .ok (.iload_n 0, 1) := by decide +kernel
theorem dJ3_checkIndex_8e157_1 : decode cJ3_checkIndex_8e157 1 = .ok (.ifCond .lt 8, 3) := by decide +kernel
theorem dJ3_checkIndex_8e157_4 : decode cJ3_checkIndex_8e157 4 = .ok (.iload_n 0, 1) := by decide +kernel
theorem dJ3_checkIndex_8e157_5 : decode cJ3_checkIndex_8e157 5 = .ok (.iload_n 1, 1) := by decide +kernel
theorem dJ3_checkIndex_8e157_6 : decode cJ3_checkIndex_8e157 6 = .ok (.if_icmp .lt 10, 3) := by decide +kernel
theorem dJ3_checkIndex_8e157_9 : decode cJ3_checkIndex_8e157 9 = .ok (.aload_n 2, 1) := by decide +kernel
theorem dJ3_checkIndex_8e157_10 : decode cJ3_checkIndex_8e157 10 = .ok (.iload_n 0, 1) := by decide +kernel
theorem dJ3_checkIndex_8e157_11 : decode cJ3_checkIndex_8e157 11 = .ok (.iload_n 1, 1) := by decide +kernel
theorem dJ3_checkIndex_8e157_12 : decode cJ3_checkIndex_8e157 12 = .ok (.invokestatic 95, 3) := by decide +kernel
theorem dJ3_checkIndex_8e157_15 : decode cJ3_checkIndex_8e157 15 = .ok (.athrow, 1) := by decide +kernel
theorem dJ3_checkIndex_8e157_16 : decode cJ3_checkIndex_8e157 16 = .ok (.iload_n 0, 1) := by decide +kernel
theorem dJ3_checkIndex_8e157_17 : decode cJ3_checkIndex_8e157 17 = .ok (.ireturn, 1) := by decide +kernel
end
section
abbrev vwCl : List vw_C := [(RJx4a65c, TJx4a65c, 3), (RX0, TX0, 4), (RX1, TX1, 6), (RX2, TX2, 9), (RX3, TX3, 3), (RX4, TX4, 4), (RX5, TX5, 3), (RX6, TX6, 8), (RX7, TX7, 2), (RX8, TX8, 6), (RX9, TX9, 2), (RX10, TX10, 3), (RX11, TX11, 34)]
end
section
theorem zz_probe : True := trivial
end
