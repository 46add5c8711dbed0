section
-- ===== PART A: goes FIRST, ahead of the names: the tables' words, and 'selects' of the private methods out of them =====
/-- a private method of a class that the tables say can be made, by its rows of tables_1 -/
def lw_okq (q : MethodName × Nat) : Prop := (q.1.cls ≠ "java/lang/invoke/MethodHandle" ∧ q.1.cls ≠ "java/lang/invoke/VarHandle") ∧ Cond.instantiable q.1.cls q.2 ∈ tables_1 ∧ Cond.privateMethod q.1 ∈ tables_1 ∧ Cond.instanceMethod q.1 ∈ tables_1
theorem lw_p0 : lw_okq (⟨"java/lang/Throwable", "fillInStackTrace", "(I)Ljava/lang/Throwable;"⟩, 6) := ⟨⟨by decide +kernel, by decide +kernel⟩, List.mem_of_getElem? (i := 242) (by decide +kernel), List.mem_of_getElem? (i := 240) (by decide +kernel), List.mem_of_getElem? (i := 241) (by decide +kernel)⟩
theorem lw_p1 : lw_okq (⟨"StuckRods", "changeOrThrow", "(II)I"⟩, 3) := ⟨⟨by decide +kernel, by decide +kernel⟩, List.mem_of_getElem? (i := 14) (by decide +kernel), List.mem_of_getElem? (i := 399) (by decide +kernel), List.mem_of_getElem? (i := 400) (by decide +kernel)⟩
theorem lw_p2 : lw_okq (⟨"StuckRods", "reckonTerm", "(II)I"⟩, 3) := ⟨⟨by decide +kernel, by decide +kernel⟩, List.mem_of_getElem? (i := 14) (by decide +kernel), List.mem_of_getElem? (i := 445) (by decide +kernel), List.mem_of_getElem? (i := 446) (by decide +kernel)⟩
theorem lw_p3 : lw_okq (⟨"StuckRodsModel", "isLoose", "(III)Z"⟩, 8) := ⟨⟨by decide +kernel, by decide +kernel⟩, List.mem_of_getElem? (i := 481) (by decide +kernel), List.mem_of_getElem? (i := 526) (by decide +kernel), List.mem_of_getElem? (i := 527) (by decide +kernel)⟩
theorem lw_p4 : lw_okq (⟨"StuckRodsModel", "holds", "(I)Z"⟩, 8) := ⟨⟨by decide +kernel, by decide +kernel⟩, List.mem_of_getElem? (i := 481) (by decide +kernel), List.mem_of_getElem? (i := 533) (by decide +kernel), List.mem_of_getElem? (i := 534) (by decide +kernel)⟩
theorem lw_p5 : lw_okq (⟨"StuckRodsModel", "save", "()V"⟩, 8) := ⟨⟨by decide +kernel, by decide +kernel⟩, List.mem_of_getElem? (i := 481) (by decide +kernel), List.mem_of_getElem? (i := 537) (by decide +kernel), List.mem_of_getElem? (i := 538) (by decide +kernel)⟩
theorem lw_p6 : lw_okq (⟨"StuckRodsModel", "movesBeads", "(III)I"⟩, 8) := ⟨⟨by decide +kernel, by decide +kernel⟩, List.mem_of_getElem? (i := 481) (by decide +kernel), List.mem_of_getElem? (i := 541) (by decide +kernel), List.mem_of_getElem? (i := 542) (by decide +kernel)⟩
theorem lw_p7 : lw_okq (⟨"StuckRodsModel", "movesTo", "(III)I"⟩, 8) := ⟨⟨by decide +kernel, by decide +kernel⟩, List.mem_of_getElem? (i := 481) (by decide +kernel), List.mem_of_getElem? (i := 545) (by decide +kernel), List.mem_of_getElem? (i := 546) (by decide +kernel)⟩
theorem lw_p8 : lw_okq (⟨"StuckRodsModel", "puts", "(II)I"⟩, 8) := ⟨⟨by decide +kernel, by decide +kernel⟩, List.mem_of_getElem? (i := 481) (by decide +kernel), List.mem_of_getElem? (i := 556) (by decide +kernel), List.mem_of_getElem? (i := 557) (by decide +kernel)⟩
theorem lw_p9 : lw_okq (⟨"StuckRodsModel", "takes", "(III)I"⟩, 8) := ⟨⟨by decide +kernel, by decide +kernel⟩, List.mem_of_getElem? (i := 481) (by decide +kernel), List.mem_of_getElem? (i := 568) (by decide +kernel), List.mem_of_getElem? (i := 569) (by decide +kernel)⟩
theorem lw_p10 : lw_okq (⟨"StuckRodsModel", "allMoves", "()I"⟩, 8) := ⟨⟨by decide +kernel, by decide +kernel⟩, List.mem_of_getElem? (i := 481) (by decide +kernel), List.mem_of_getElem? (i := 572) (by decide +kernel), List.mem_of_getElem? (i := 573) (by decide +kernel)⟩
theorem lw_p11 : lw_okq (⟨"StuckRodsModel", "tries", "(III)Z"⟩, 8) := ⟨⟨by decide +kernel, by decide +kernel⟩, List.mem_of_getElem? (i := 481) (by decide +kernel), List.mem_of_getElem? (i := 576) (by decide +kernel), List.mem_of_getElem? (i := 577) (by decide +kernel)⟩
theorem lw_p12 : lw_okq (⟨"StuckRodsModel", "putAside", "()V"⟩, 8) := ⟨⟨by decide +kernel, by decide +kernel⟩, List.mem_of_getElem? (i := 481) (by decide +kernel), List.mem_of_getElem? (i := 580) (by decide +kernel), List.mem_of_getElem? (i := 581) (by decide +kernel)⟩
theorem lw_p13 : lw_okq (⟨"StuckRodsModel", "adds", "(II)Z"⟩, 8) := ⟨⟨by decide +kernel, by decide +kernel⟩, List.mem_of_getElem? (i := 481) (by decide +kernel), List.mem_of_getElem? (i := 584) (by decide +kernel), List.mem_of_getElem? (i := 585) (by decide +kernel)⟩
theorem lw_p14 : lw_okq (⟨"StuckRodsModel", "shows", "(I)I"⟩, 8) := ⟨⟨by decide +kernel, by decide +kernel⟩, List.mem_of_getElem? (i := 481) (by decide +kernel), List.mem_of_getElem? (i := 588) (by decide +kernel), List.mem_of_getElem? (i := 589) (by decide +kernel)⟩
theorem lw_p15 : lw_okq (⟨"StuckRodsModel", "can", "(II)Z"⟩, 8) := ⟨⟨by decide +kernel, by decide +kernel⟩, List.mem_of_getElem? (i := 481) (by decide +kernel), List.mem_of_getElem? (i := 592) (by decide +kernel), List.mem_of_getElem? (i := 593) (by decide +kernel)⟩
def lw_privs_1 : List (MethodName × Nat) := [(⟨"java/lang/Throwable", "fillInStackTrace", "(I)Ljava/lang/Throwable;"⟩, 6), (⟨"StuckRods", "changeOrThrow", "(II)I"⟩, 3), (⟨"StuckRods", "reckonTerm", "(II)I"⟩, 3), (⟨"StuckRodsModel", "isLoose", "(III)Z"⟩, 8), (⟨"StuckRodsModel", "holds", "(I)Z"⟩, 8), (⟨"StuckRodsModel", "save", "()V"⟩, 8), (⟨"StuckRodsModel", "movesBeads", "(III)I"⟩, 8), (⟨"StuckRodsModel", "movesTo", "(III)I"⟩, 8), (⟨"StuckRodsModel", "puts", "(II)I"⟩, 8), (⟨"StuckRodsModel", "takes", "(III)I"⟩, 8), (⟨"StuckRodsModel", "allMoves", "()I"⟩, 8), (⟨"StuckRodsModel", "tries", "(III)Z"⟩, 8), (⟨"StuckRodsModel", "putAside", "()V"⟩, 8), (⟨"StuckRodsModel", "adds", "(II)Z"⟩, 8), (⟨"StuckRodsModel", "shows", "(I)I"⟩, 8), (⟨"StuckRodsModel", "can", "(II)Z"⟩, 8)]
theorem lw_r1 : ∀ q ∈ lw_privs_1, lw_okq q := List.forall_mem_cons.mpr ⟨lw_p0, List.forall_mem_cons.mpr ⟨lw_p1, List.forall_mem_cons.mpr ⟨lw_p2, List.forall_mem_cons.mpr ⟨lw_p3, List.forall_mem_cons.mpr ⟨lw_p4, List.forall_mem_cons.mpr ⟨lw_p5, List.forall_mem_cons.mpr ⟨lw_p6, List.forall_mem_cons.mpr ⟨lw_p7, List.forall_mem_cons.mpr ⟨lw_p8, List.forall_mem_cons.mpr ⟨lw_p9, List.forall_mem_cons.mpr ⟨lw_p10, List.forall_mem_cons.mpr ⟨lw_p11, List.forall_mem_cons.mpr ⟨lw_p12, List.forall_mem_cons.mpr ⟨lw_p13, List.forall_mem_cons.mpr ⟨lw_p14, List.forall_mem_cons.mpr ⟨lw_p15, fun _ h => absurd h List.not_mem_nil⟩⟩⟩⟩⟩⟩⟩⟩⟩⟩⟩⟩⟩⟩⟩⟩
theorem lw_p16 : lw_okq (⟨"StuckRodsModel", "fivesFor", "(II)I"⟩, 8) := ⟨⟨by decide +kernel, by decide +kernel⟩, List.mem_of_getElem? (i := 481) (by decide +kernel), List.mem_of_getElem? (i := 596) (by decide +kernel), List.mem_of_getElem? (i := 597) (by decide +kernel)⟩
theorem lw_p17 : lw_okq (⟨"StuckRodsModel", "comes", "(II)V"⟩, 8) := ⟨⟨by decide +kernel, by decide +kernel⟩, List.mem_of_getElem? (i := 481) (by decide +kernel), List.mem_of_getElem? (i := 600) (by decide +kernel), List.mem_of_getElem? (i := 601) (by decide +kernel)⟩
theorem lw_p18 : lw_okq (⟨"StuckRodsModel", "carries", "(II)Z"⟩, 8) := ⟨⟨by decide +kernel, by decide +kernel⟩, List.mem_of_getElem? (i := 481) (by decide +kernel), List.mem_of_getElem? (i := 604) (by decide +kernel), List.mem_of_getElem? (i := 605) (by decide +kernel)⟩
theorem lw_p19 : lw_okq (⟨"StuckRodsModel", "pays", "(I)Z"⟩, 8) := ⟨⟨by decide +kernel, by decide +kernel⟩, List.mem_of_getElem? (i := 481) (by decide +kernel), List.mem_of_getElem? (i := 608) (by decide +kernel), List.mem_of_getElem? (i := 609) (by decide +kernel)⟩
theorem lw_p20 : lw_okq (⟨"StuckRodsModel", "orders", "(I)Z"⟩, 8) := ⟨⟨by decide +kernel, by decide +kernel⟩, List.mem_of_getElem? (i := 481) (by decide +kernel), List.mem_of_getElem? (i := 612) (by decide +kernel), List.mem_of_getElem? (i := 613) (by decide +kernel)⟩
theorem lw_p21 : lw_okq (⟨"StuckRodsModel", "putBack", "()V"⟩, 8) := ⟨⟨by decide +kernel, by decide +kernel⟩, List.mem_of_getElem? (i := 481) (by decide +kernel), List.mem_of_getElem? (i := 616) (by decide +kernel), List.mem_of_getElem? (i := 617) (by decide +kernel)⟩
theorem lw_p22 : lw_okq (⟨"StuckRodsModel", "does", "(III)I"⟩, 8) := ⟨⟨by decide +kernel, by decide +kernel⟩, List.mem_of_getElem? (i := 481) (by decide +kernel), List.mem_of_getElem? (i := 620) (by decide +kernel), List.mem_of_getElem? (i := 621) (by decide +kernel)⟩
theorem lw_p23 : lw_okq (⟨"StuckRodsModel", "wrong", "()I"⟩, 8) := ⟨⟨by decide +kernel, by decide +kernel⟩, List.mem_of_getElem? (i := 481) (by decide +kernel), List.mem_of_getElem? (i := 648) (by decide +kernel), List.mem_of_getElem? (i := 649) (by decide +kernel)⟩
theorem lw_p24 : lw_okq (⟨"StuckRodsModel", "reckons", "()I"⟩, 8) := ⟨⟨by decide +kernel, by decide +kernel⟩, List.mem_of_getElem? (i := 481) (by decide +kernel), List.mem_of_getElem? (i := 656) (by decide +kernel), List.mem_of_getElem? (i := 657) (by decide +kernel)⟩
theorem lw_p25 : lw_okq (⟨"StuckRodsModel", "term", "(II)I"⟩, 8) := ⟨⟨by decide +kernel, by decide +kernel⟩, List.mem_of_getElem? (i := 481) (by decide +kernel), List.mem_of_getElem? (i := 660) (by decide +kernel), List.mem_of_getElem? (i := 661) (by decide +kernel)⟩
theorem lw_p26 : lw_okq (⟨"StuckRodsModel", "told", "(II)I"⟩, 8) := ⟨⟨by decide +kernel, by decide +kernel⟩, List.mem_of_getElem? (i := 481) (by decide +kernel), List.mem_of_getElem? (i := 672) (by decide +kernel), List.mem_of_getElem? (i := 673) (by decide +kernel)⟩
theorem lw_p27 : lw_okq (⟨"StuckRodsModel", "numbers", "(I)I"⟩, 8) := ⟨⟨by decide +kernel, by decide +kernel⟩, List.mem_of_getElem? (i := 481) (by decide +kernel), List.mem_of_getElem? (i := 676) (by decide +kernel), List.mem_of_getElem? (i := 677) (by decide +kernel)⟩
theorem lw_p28 : lw_okq (⟨"StuckRodsModel", "all", "()J"⟩, 8) := ⟨⟨by decide +kernel, by decide +kernel⟩, List.mem_of_getElem? (i := 481) (by decide +kernel), List.mem_of_getElem? (i := 684) (by decide +kernel), List.mem_of_getElem? (i := 685) (by decide +kernel)⟩
theorem lw_p29 : lw_okq (⟨"StuckRodsModel", "counted", "(I)I"⟩, 8) := ⟨⟨by decide +kernel, by decide +kernel⟩, List.mem_of_getElem? (i := 481) (by decide +kernel), List.mem_of_getElem? (i := 693) (by decide +kernel), List.mem_of_getElem? (i := 694) (by decide +kernel)⟩
theorem lw_p30 : lw_okq (⟨"StuckRodsModel", "sum", "(I)I"⟩, 8) := ⟨⟨by decide +kernel, by decide +kernel⟩, List.mem_of_getElem? (i := 481) (by decide +kernel), List.mem_of_getElem? (i := 697) (by decide +kernel), List.mem_of_getElem? (i := 698) (by decide +kernel)⟩
theorem lw_p31 : lw_okq (⟨"StuckRodsModel", "movesFor", "(II)I"⟩, 8) := ⟨⟨by decide +kernel, by decide +kernel⟩, List.mem_of_getElem? (i := 481) (by decide +kernel), List.mem_of_getElem? (i := 705) (by decide +kernel), List.mem_of_getElem? (i := 706) (by decide +kernel)⟩
def lw_privs_2 : List (MethodName × Nat) := [(⟨"StuckRodsModel", "fivesFor", "(II)I"⟩, 8), (⟨"StuckRodsModel", "comes", "(II)V"⟩, 8), (⟨"StuckRodsModel", "carries", "(II)Z"⟩, 8), (⟨"StuckRodsModel", "pays", "(I)Z"⟩, 8), (⟨"StuckRodsModel", "orders", "(I)Z"⟩, 8), (⟨"StuckRodsModel", "putBack", "()V"⟩, 8), (⟨"StuckRodsModel", "does", "(III)I"⟩, 8), (⟨"StuckRodsModel", "wrong", "()I"⟩, 8), (⟨"StuckRodsModel", "reckons", "()I"⟩, 8), (⟨"StuckRodsModel", "term", "(II)I"⟩, 8), (⟨"StuckRodsModel", "told", "(II)I"⟩, 8), (⟨"StuckRodsModel", "numbers", "(I)I"⟩, 8), (⟨"StuckRodsModel", "all", "()J"⟩, 8), (⟨"StuckRodsModel", "counted", "(I)I"⟩, 8), (⟨"StuckRodsModel", "sum", "(I)I"⟩, 8), (⟨"StuckRodsModel", "movesFor", "(II)I"⟩, 8)]
theorem lw_r2 : ∀ q ∈ lw_privs_2, lw_okq q := List.forall_mem_cons.mpr ⟨lw_p16, List.forall_mem_cons.mpr ⟨lw_p17, List.forall_mem_cons.mpr ⟨lw_p18, List.forall_mem_cons.mpr ⟨lw_p19, List.forall_mem_cons.mpr ⟨lw_p20, List.forall_mem_cons.mpr ⟨lw_p21, List.forall_mem_cons.mpr ⟨lw_p22, List.forall_mem_cons.mpr ⟨lw_p23, List.forall_mem_cons.mpr ⟨lw_p24, List.forall_mem_cons.mpr ⟨lw_p25, List.forall_mem_cons.mpr ⟨lw_p26, List.forall_mem_cons.mpr ⟨lw_p27, List.forall_mem_cons.mpr ⟨lw_p28, List.forall_mem_cons.mpr ⟨lw_p29, List.forall_mem_cons.mpr ⟨lw_p30, List.forall_mem_cons.mpr ⟨lw_p31, fun _ h => absurd h List.not_mem_nil⟩⟩⟩⟩⟩⟩⟩⟩⟩⟩⟩⟩⟩⟩⟩⟩
theorem lw_p32 : lw_okq (⟨"StuckRodsModel", "showing", "(I)I"⟩, 8) := ⟨⟨by decide +kernel, by decide +kernel⟩, List.mem_of_getElem? (i := 481) (by decide +kernel), List.mem_of_getElem? (i := 718) (by decide +kernel), List.mem_of_getElem? (i := 719) (by decide +kernel)⟩
theorem lw_p33 : lw_okq (⟨"StuckRodsModel", "cheapest", "()I"⟩, 8) := ⟨⟨by decide +kernel, by decide +kernel⟩, List.mem_of_getElem? (i := 481) (by decide +kernel), List.mem_of_getElem? (i := 726) (by decide +kernel), List.mem_of_getElem? (i := 727) (by decide +kernel)⟩
theorem lw_p34 : lw_okq (⟨"StuckRodsModel", "loose", "()D"⟩, 8) := ⟨⟨by decide +kernel, by decide +kernel⟩, List.mem_of_getElem? (i := 481) (by decide +kernel), List.mem_of_getElem? (i := 734) (by decide +kernel), List.mem_of_getElem? (i := 735) (by decide +kernel)⟩
theorem lw_p35 : lw_okq (⟨"StuckRodsModel", "digestOne", "(J)V"⟩, 8) := ⟨⟨by decide +kernel, by decide +kernel⟩, List.mem_of_getElem? (i := 481) (by decide +kernel), List.mem_of_getElem? (i := 744) (by decide +kernel), List.mem_of_getElem? (i := 745) (by decide +kernel)⟩
theorem lw_p36 : lw_okq (⟨"StuckRodsModel", "digestRod", "(I)V"⟩, 8) := ⟨⟨by decide +kernel, by decide +kernel⟩, List.mem_of_getElem? (i := 481) (by decide +kernel), List.mem_of_getElem? (i := 749) (by decide +kernel), List.mem_of_getElem? (i := 750) (by decide +kernel)⟩
def lw_privs_3 : List (MethodName × Nat) := [(⟨"StuckRodsModel", "showing", "(I)I"⟩, 8), (⟨"StuckRodsModel", "cheapest", "()I"⟩, 8), (⟨"StuckRodsModel", "loose", "()D"⟩, 8), (⟨"StuckRodsModel", "digestOne", "(J)V"⟩, 8), (⟨"StuckRodsModel", "digestRod", "(I)V"⟩, 8)]
theorem lw_r3 : ∀ q ∈ lw_privs_3, lw_okq q := List.forall_mem_cons.mpr ⟨lw_p32, List.forall_mem_cons.mpr ⟨lw_p33, List.forall_mem_cons.mpr ⟨lw_p34, List.forall_mem_cons.mpr ⟨lw_p35, List.forall_mem_cons.mpr ⟨lw_p36, fun _ h => absurd h List.not_mem_nil⟩⟩⟩⟩⟩
def lw_privs : List (MethodName × Nat) := lw_privs_1 ++ (lw_privs_2 ++ (lw_privs_3))
def lw_tbl : List Cond := k2_sels lw_privs ++ tables_1
theorem lw_privs_ok : ∀ q ∈ lw_privs, lw_okq q := by
  show ∀ q ∈ lw_privs_1 ++ (lw_privs_2 ++ (lw_privs_3)), lw_okq q
  exact List.forall_mem_append.mpr ⟨lw_r1, List.forall_mem_append.mpr ⟨lw_r2, lw_r3⟩⟩
/-- the streams that the claim lets the run draw from -/
abbrev lw_cs : List Choice := [Jvm.Choice.named "NaN.bits"]
theorem lw_bits : nanBits ∈ lw_cs := by first | decide | exact List.mem_cons_self | simp [lw_cs, nanBits]
-- ===== end of PART A; then your names; then what follows =====
/-! ===== BEGIN words of one list among another's, by their places ===== -/
theorem goodIn_r {big : List Cond} (ws : List Cond) (ps : List Nat) (hp : ws = ps.filterMap (fun i => big[i]?)) (h : ws.all goodWord = true) : GoodIn big ws := by
  intro w hw
  have h1 := List.all_eq_true.mp h w hw
  rw [hp] at hw
  obtain ⟨i, -, hi⟩ := List.mem_filterMap.mp hw
  have hm : w ∈ big := by first | exact List.mem_of_getElem? hi | exact List.getElem?_mem hi
  exact ⟨hm, good_of_word h1⟩
theorem goodIn_app {big a b : List Cond} (ha : GoodIn big a) (hb : GoodIn big b) : GoodIn big (a ++ b) := fun w h => (List.mem_append.mp h).elim (ha w) (hb w)
theorem goodIn_ca {big a b : List Cond} {c : Cond} (ha : GoodIn big (c :: a)) (hb : GoodIn big b) : GoodIn big (c :: (a ++ b)) := fun w h => (List.mem_cons.mp h).elim (fun e => ha w (List.mem_cons.mpr (Or.inl e))) (fun h => (List.mem_append.mp h).elim (fun h => ha w (List.mem_cons.mpr (Or.inr h))) (hb w))
theorem goodIn_sub {big ws : List Cond} (hm : ∀ w ∈ ws, w ∈ big) (h : ws.all goodWord = true) : GoodIn big ws := fun w hw => ⟨hm w hw, good_of_word (List.all_eq_true.mp h w hw)⟩
/-! ===== END ===== -/

/-! ===== BEGIN exceptions that leave a method, and their catching by the caller (launches without stack traces) ===== -/
section VXA
/-! The laws vx_back, vx_callV, vx_callS, vx_callSW, vx_throw0, vx_throwS follow proofs of the library, with one case more: JvmDerived/Free/Laws.lean (Back.of_free), Shelf42/LK1.lean (callV, callS), Shelf/KitTraced.lean (throwNew0V, throwNewS). -/
/-- where a method has thrown q: the class by its name, the cell, what was written, the world -/
def vx_T (XC : String → State → State → Prop) (st : State) (q : Addr) (t : State) (mc ms : Nat) (free : Addr → Prop) : Prop :=
  ∃ (E : String) (ce : Cell) (L : List Loc), XC E st t ∧ t.heap[q]? = some ce ∧ ce.vm = .none ∧ st.vm.findClass E = some ce.cls ∧ st.WarmedH t.vm ∧ st.sameButNew ({ t with vm := st.vm } : State) L mc ms ∧ ∀ z ∈ L, free z.base
def vx_Q (Qc : Array Value → State → Outcome → State → Prop) (XC : String → State → State → Prop) (mc ms : Nat) (free : Addr → Prop) : Array Value → State → Outcome → State → Prop := fun a st o t =>
  (Qc a st o t ∧ ∃ L, FrameEnd st o t L mc ms ∧ ∀ q ∈ L, free q.base) ∨ ∃ q, o = .threw q ∧ vx_T XC st q t mc ms free
/-- a callee that returns or throws -/
def vx_Met (l : Launch) (y : MethodName) (ws : List Cond) (rm : Room) (Pc : Array Value → State → Prop) (Qc : Array Value → State → Outcome → State → Prop) (XC : String → State → State → Prop) (mc ms : Nat) (free : Addr → Prop) : Prop :=
  MetFree l y (headSpec ws rm) Pc (fun _ _ _ _ _ => True) (vx_Q Qc XC mc ms free)
def vx_Post (XC : String → State → State → Prop) (mc ms : Nat) (free : Addr → Prop) : Pt → Array Value → Addr → Pt → Prop := fun A a q B =>
  ∃ (g : JFrame) (mk : MethodId) (t : State) (L : List Loc) (E : String) (ce : Cell), B.U.heap = t.heap ∧ B.U.vm = t.vm ∧ XC E (A.U.calling g mk a) t ∧ t.heap[q]? = some ce ∧ ce.vm = .none ∧ A.U.vm.findClass E = some ce.cls ∧ B.locs = A.locs ++ L ∧ (∀ z ∈ L, free z.base) ∧ B.cells = A.cells + mc ∧ B.slots = A.slots + ms
def vx_Back (l : Launch) (R : Room) (p : Program) (e : Env) (below : List Frame) (s : State) (sargs : Array Value) (y : MethodName) (len W9 : Nat)
    (Pre : Pt → Array Value → Prop) (Post : Pt → Array Value → Option Value → Pt → Prop) (PostX : Pt → Array Value → Addr → Pt → Prop) : Prop :=
  ∀ (m : MethodId) (meth : Method) (c : Code) (A : Pt) (g : JFrame) (ig : Instr) (mk : MethodId) (a : Array Value),
    Stand p l e R s m sargs below meth c A.U A.locs A.cells A.slots → g.method = m → g.locals.size = c.maxLocals → decode c.code g.pc = .ok (ig, len) →
    2 * g.monitorRoom + (g.stack.map fun v => v.category).sum ≤ W9 → A.U.methodNamed? y = some mk → Pre A a →
    (∃ (v : Option Value) (B : Pt), Stand p l e R s m sargs below meth c B.U B.locs B.cells B.slots ∧ Post A a v B ∧
      Steps p.tables e below (doInvoke e (A.U.setTop g) [] mk a).1 (B.U.setTop { g with pc := g.pc + len, stack := v.toList ++ g.stack })) ∨
    (∃ (q : Addr) (B : Pt), Stand p l e R s m sargs below meth c B.U B.locs B.cells B.slots ∧ PostX A a q B ∧
      Steps p.tables e below (doInvoke e (A.U.setTop g) [] mk a).1 ((B.U.setTop g).pushFrame (.throwing q)))
section Payer
variable {l : Launch} {R : Room} {p : Program} {e : Env} {below : List Frame} {s : State} {sargs : Array Value} {y : MethodName} {len W9 : Nat}
theorem vx_back {ws : List Cond} {rm : Room} {Pc : Array Value → State → Prop} {Qc : Array Value → State → Outcome → State → Prop} {XC : String → State → State → Prop} {mc ms : Nat} {free : Addr → Prop} {bytes : ByteArray} {maxL : Nat} {ret : Option FieldType}
    (hM : vx_Met l y ws rm Pc Qc XC mc ms free) (hblind : FrameBlind Pc) (hrc : rm.cells = mc) (hrs : rm.slots = ms)
    (hframes : rm.frames + 1 ≤ R.frames) (hlocals : W9 + (maxL + 11) + rm.locals ≤ R.locals)
    (hws : ∀ w ∈ ws, ∀ a' U, s.WarmedH U.vm → w.before a' U = true) (hcode : Cond.code y bytes maxL ret ∈ ws) (hinit : ∀ a' U, s.WarmedH U.vm → (Cond.initialized y.cls).before a' U = true) :
    vx_Back l R p e below s sargs y len W9 (PreOf R mc ms Pc) (PostOf Qc mc ms free) (vx_Post XC mc ms free) := by
  intro m meth c A g ig mk a X hg hsize hdg hW hn hp
  have h1 : (headSpec ws rm).pre.before a A.U = true := atoms_intro fun w hw => hws w hw _ _ X.warmed
  have h2 : (Cond.code y bytes maxL ret).before a A.U = true := hws _ hcode _ _ X.warmed
  have h3 : (Cond.initialized y.cls).before a A.U = true := hinit _ _ X.warmed
  have h4 : A.cells + (headSpec ws rm).room.cells ≤ R.cells := by rw [show (headSpec ws rm).room.cells = mc from hrc]; exact hp.1
  have h5 : A.slots + (headSpec ws rm).room.slots ≤ R.slots := by rw [show (headSpec ws rm).room.slots = ms from hrs]; exact hp.2.1
  have hPc : Pc a (A.U.calling g mk a) := hblind _ _ _ _ hp.2.2
  obtain ⟨U, Ls, c0, s0⟩ := A
  dsimp only [Pt.U, Pt.locs, Pt.cells, Pt.slots] at h1 h2 h3 h4 h5 X hn hPc ⊢
  obtain ⟨methY, cY, hmY, hcY, -, hlY, -, -, -, -⟩ := Cond.code_spec hn h2
  obtain ⟨kY, hkY, -⟩ := className_of_methodNamed hn
  have hinitY : kY.init = .initialized := Cond.initialized_spec (findClass_of_methodNamed hn) hkY h3
  have h : At U g.method c below := by rw [hg]; exact X.here
  have hlocals9 : W9 + (maxL + 11) + (headSpec ws rm).room.locals ≤ R.locals := hlocals
  have happ : (headSpec ws rm).appliesLoose y e.platform (U.calling g mk a) = true :=
    Spec.appliesLoose_calling (g := g) h hdg hn hkY hinitY
      (X.room_calling (g := g) (R' := (headSpec ws rm).room) hsize hmY hcY hframes (by rw [hlY]; omega) h4 h5) h1
  obtain ⟨mid, hmid⟩ := h.above
  have hfr : (U.setTop g).frames = (.java g :: mid) ++ below := by rw [State.frames_setTop' g h.top, hmid]; rfl
  obtain ⟨o, s₂, hsteps, -, hend, hq⟩ := Steps.callFree hM p X.admits X.cas X.clock (acts := []) hfr happ hPc trivial
  have hq' : vx_Q Qc XC mc ms free a (U.calling g mk a) o s₂ := hq
  rw [State.frames_setTop' g h.top] at hend
  obtain ⟨g₀, hg0⟩ := Option.isSome_iff_exists.mp h.top
  obtain ⟨r, hr⟩ := State.topJava?_eq_some.mp hg0
  have hr' : (({ U with heap := s₂.heap, slotsUsed := s₂.slotsUsed } : State).setVm s₂.vm).frames = .java g₀ :: r := hr
  rcases hq' with ⟨hqc, L, hfe, hL⟩ | ⟨q, rfl, E, ce, L, hx, hce, hcv, hcl, hW₂, hsm, hL⟩
  · obtain ⟨⟨v, rfl⟩, hW₂, e2, q2, q3, q4, q5, q6⟩ := id hfe
    have e3 : s₂ = ({ (U.calling g mk a).setFrames s₂.frames with heap := s₂.heap, slotsUsed := s₂.slotsUsed } : State).setVm s₂.vm := by
      have : s₂ = ({ s₂ with vm := (U.calling g mk a).vm } : State).setVm s₂.vm := rfl
      rw [e2] at this
      exact this
    obtain ⟨c₂, i₂, len₂, hc₂, hd₂, hf₂⟩ := hend
    have hW' : U.WarmedH s₂.vm := hW₂
    have hcc : c₂ = c := by
      have h1 : s₂.code? g.method = U.code? g.method := by
        rw [State.code?_eq, State.code?_eq, hW'.alike.method?]
      exact Option.some.inj (hc₂.symm.trans (h1.trans h.code))
    subst hcc
    have hlen : len₂ = len := by rw [hdg] at hd₂; cases hd₂; rfl
    subst hlen
    have hs₂ : s₂ = (({ U with heap := s₂.heap, slotsUsed := s₂.slotsUsed } : State).setVm s₂.vm).setTop { g with pc := g.pc + len₂, stack := v.toList ++ g.stack } := by
      refine e3.trans ?_
      rw [hf₂, State.calling_eq h.top, State.setFrames_setFrames, State.setTop_of_frames _ hr', hr]
      rfl
    have hsame : U.sameButNew ({ U with heap := s₂.heap, slotsUsed := s₂.slotsUsed } : State) L mc ms := by
      refine ⟨?_, q2, q3, q4, q5, q6⟩
      obtain ⟨t, ht, -⟩ := State.frames_cons hr
      show ({ U with heap := s₂.heap, slotsUsed := s₂.slotsUsed } : State) = { U.setFrames U.frames with heap := s₂.heap, slotsUsed := s₂.slotsUsed }
      rw [State.setFrames_self ht]
    subst hg
    refine Or.inl ⟨v, ⟨(({ U with heap := s₂.heap, slotsUsed := s₂.slotsUsed } : State).setVm s₂.vm), Ls ++ L, c0 + mc, s0 + ms⟩,
      ⟨X.admits, X.cas, X.clock, X.frames, X.room, X.hears, X.method, X.code, (X.here.setHeapUsed s₂.heap s₂.slotsUsed).setVm hW'.alike, X.tail, State.WarmedH.trans X.warmed hW', X.limits, X.bytes, X.same.trans (hsame.setVm s.vm)⟩,
      ⟨g, mk, s₂, L, rfl, rfl, hqc, rfl, hL, rfl, rfl⟩, ?_⟩
    show Steps p.tables e below _ ((({ U with heap := s₂.heap, slotsUsed := s₂.slotsUsed } : State).setVm s₂.vm).setTop { g with pc := g.pc + len₂, stack := v.toList ++ g.stack })
    rw [← hs₂]
    exact hsteps
  · obtain ⟨e2, q2, q3, q4, q5, q6⟩ := id hsm
    have e3 : s₂ = ({ (U.calling g mk a).setFrames s₂.frames with heap := s₂.heap, slotsUsed := s₂.slotsUsed } : State).setVm s₂.vm := by
      have : s₂ = ({ s₂ with vm := (U.calling g mk a).vm } : State).setVm s₂.vm := rfl
      rw [e2] at this
      exact this
    have hf₂ : s₂.frames = .throwing q :: .java g :: U.frames.tail := hend
    have hW' : U.WarmedH s₂.vm := hW₂
    have hs₂ : s₂ = ((({ U with heap := s₂.heap, slotsUsed := s₂.slotsUsed } : State).setVm s₂.vm).setTop g).pushFrame (.throwing q) := by
      refine e3.trans ?_
      rw [hf₂, State.calling_eq h.top, State.setFrames_setFrames, State.pushFrame, State.frames_setTop _ hr', State.setTop_of_frames _ hr', State.setFrames_setFrames, hr]
      rfl
    have hsame : U.sameButNew ({ U with heap := s₂.heap, slotsUsed := s₂.slotsUsed } : State) L mc ms := by
      refine ⟨?_, q2, q3, q4, q5, q6⟩
      obtain ⟨t, ht, -⟩ := State.frames_cons hr
      show ({ U with heap := s₂.heap, slotsUsed := s₂.slotsUsed } : State) = { U.setFrames U.frames with heap := s₂.heap, slotsUsed := s₂.slotsUsed }
      rw [State.setFrames_self ht]
    subst hg
    refine Or.inr ⟨q, ⟨(({ U with heap := s₂.heap, slotsUsed := s₂.slotsUsed } : State).setVm s₂.vm), Ls ++ L, c0 + mc, s0 + ms⟩,
      ⟨X.admits, X.cas, X.clock, X.frames, X.room, X.hears, X.method, X.code, (X.here.setHeapUsed s₂.heap s₂.slotsUsed).setVm hW'.alike, X.tail, State.WarmedH.trans X.warmed hW', X.limits, X.bytes, X.same.trans (hsame.setVm s.vm)⟩,
      ⟨g, mk, s₂, L, E, ce, rfl, rfl, hx, hce, hcv, hcl, rfl, hL, rfl, rfl⟩, ?_⟩
    show Steps p.tables e below _ (((({ U with heap := s₂.heap, slotsUsed := s₂.slotsUsed } : State).setVm s₂.vm).setTop g).pushFrame (.throwing q))
    rw [← hs₂]
    exact hsteps
end Payer
section Calls
variable {p : Program} {l : Launch} {e : Env} {R : Room} {s : State} {m : MethodId} {args : Array Value} {below : List Frame} {meth : Method} {c : Code} {T : State} {locs : List Loc} {cells slots : Nat}
theorem vx_callV (X : Stand p l e R s m args below meth c T locs cells slots) (hexec : p.tables.exec = Jvm.exec) {own C : String} {index : Nat} {y : MethodName} {bytes : ByteArray} {maxL : Nat} {ret : Option FieldType}
    (hown : s.vm.findClass own = some m.cls) (hlink : (Cond.methodLink own index y).before args s = true) (hinst : (Cond.instanceMethod y).before args s = true) (hsel : (Cond.selects C y y).before args s = true)
    (hcode : (Cond.code y bytes maxL ret).before args s = true) (hy : y.cls ≠ "java/lang/invoke/MethodHandle" ∧ y.cls ≠ "java/lang/invoke/VarHandle")
    {W9 : Nat} {Pre : Pt → Array Value → Prop} {Post : Pt → Array Value → Option Value → Pt → Prop} {PostX : Pt → Array Value → Addr → Pt → Prop} (hK : vx_Back l R p e below s args y 3 W9 Pre Post PostX)
    {b : Addr} {cellB : Cell} (hcell : T.heap[b]? = some cellB) (hobj : cellB.vm.isStatics = false) (hcls : s.vm.findClass C = some cellB.cls)
    {g : JFrame} (hg : g.method = m) (hsize : g.locals.size = c.maxLocals) {argsL rest : List Value} (hlen : ∀ sig, parseMethodDescriptor y.desc = some sig → argsL.length = sig.parameters.length)
    (hstack : g.stack = argsL.reverse ++ .ref b :: rest) (hW : 2 * g.monitorRoom + (rest.map fun v => v.category).sum ≤ W9) (hdg : decode c.code g.pc = .ok (.invokevirtual index, 3))
    (hpre : ∀ vm₁, s.WarmedH vm₁ → Pre ⟨T.setVm vm₁, locs, cells, slots⟩ (Value.ref b :: argsL).toArray) :
    (∃ (v : Option Value) (vm₁ : Vm) (B : Pt), s.WarmedH vm₁ ∧ Stand p l e R s m args below meth c B.U B.locs B.cells B.slots ∧ Post ⟨T.setVm vm₁, locs, cells, slots⟩ (Value.ref b :: argsL).toArray v B ∧
      ∀ target, Steps p.tables e below (B.U.setTop { g with pc := g.pc + 3, stack := v.toList ++ rest }) target → Steps p.tables e below (T.setTop g) target) ∨
    (∃ (q : Addr) (vm₁ : Vm) (B : Pt), s.WarmedH vm₁ ∧ Stand p l e R s m args below meth c B.U B.locs B.cells B.slots ∧ PostX ⟨T.setVm vm₁, locs, cells, slots⟩ (Value.ref b :: argsL).toArray q B ∧
      Steps p.tables e below (T.setTop g) ((B.U.setTop { g with stack := rest }).pushFrame (.throwing q))) := by
  obtain ⟨mk, methM, hnamed, hmethM, hstM, habM⟩ := Cond.instanceMethod_spec hinst
  obtain ⟨methM', cM, hmethM', -, -, -, -, -, -, hsigM⟩ := Cond.code_spec hnamed hcode
  cases hmethM.symm.trans hmethM'
  obtain ⟨c2, r2, m2, q1, q2, q3, q4, kP, hkP, hkPi⟩ := Cond.selects_spec hsel
  cases hcls.symm.trans q1
  cases (State.methodFound?_of_named hnamed hy).symm.trans q2
  cases hnamed.symm.trans q3
  have hselP : selectMethod e.platform s.vm cellB.cls mk = .method mk := by rw [Launch.admits_selectMethod X.admits]; exact q4
  obtain ⟨vm₁, X₁, hstep₁⟩ := X.invokevirtual hexec hown hlink hnamed hmethM hstM hkP hkPi hy (a := b) (cell := cellB) hcell
    (fun z h => by rw [h] at hobj; cases hobj) hselP hmethM habM hkP hkPi (g := g) hg (argsL := argsL) (rest := rest) (hlen _ hsigM) hstack hdg
  rcases hK m meth c ⟨T.setVm vm₁, locs, cells, slots⟩ { g with stack := rest } (.invokevirtual index) mk (Value.ref b :: argsL).toArray X₁ hg hsize hdg hW (X₁.named hnamed) (hpre vm₁ X₁.warmed) with ⟨v, B, X', hpost, hsteps⟩ | ⟨q, B, X', hpost, hsteps⟩
  · exact Or.inl ⟨v, vm₁, B, X₁.warmed, X', hpost, fun target h => hstep₁ _ fun acts => by rw [doInvoke_state]; exact hsteps.trans h⟩
  · exact Or.inr ⟨q, vm₁, B, X₁.warmed, X', hpost, hstep₁ _ fun acts => by rw [doInvoke_state]; exact hsteps⟩
theorem vx_callS (X : Stand p l e R s m args below meth c T locs cells slots) (hexec : p.tables.exec = Jvm.exec) {own : String} {index : Nat} {y : MethodName} {bytes : ByteArray} {maxL : Nat} {ret : Option FieldType}
    (hown : s.vm.findClass own = some m.cls) (hlink : (Cond.methodLink own index y).before args s = true) (hstat : (Cond.static y).before args s = true) (hinit : (Cond.initialized y.cls).before args s = true)
    (hcode : (Cond.code y bytes maxL ret).before args s = true) (hy : y.cls ≠ "java/lang/invoke/MethodHandle" ∧ y.cls ≠ "java/lang/invoke/VarHandle")
    {W9 : Nat} {Pre : Pt → Array Value → Prop} {Post : Pt → Array Value → Option Value → Pt → Prop} {PostX : Pt → Array Value → Addr → Pt → Prop} (hK : vx_Back l R p e below s args y 3 W9 Pre Post PostX)
    {g : JFrame} (hg : g.method = m) (hsize : g.locals.size = c.maxLocals) {argsL rest : List Value} (hlen : ∀ sig, parseMethodDescriptor y.desc = some sig → argsL.length = sig.parameters.length)
    (hstack : g.stack = argsL.reverse ++ rest) (hW : 2 * g.monitorRoom + (rest.map fun v => v.category).sum ≤ W9) (hdg : decode c.code g.pc = .ok (.invokestatic index, 3))
    (hpre : ∀ vm₁, s.WarmedH vm₁ → Pre ⟨T.setVm vm₁, locs, cells, slots⟩ argsL.toArray) :
    (∃ (v : Option Value) (vm₁ : Vm) (B : Pt), s.WarmedH vm₁ ∧ Stand p l e R s m args below meth c B.U B.locs B.cells B.slots ∧ Post ⟨T.setVm vm₁, locs, cells, slots⟩ argsL.toArray v B ∧
      ∀ target, Steps p.tables e below (B.U.setTop { g with pc := g.pc + 3, stack := v.toList ++ rest }) target → Steps p.tables e below (T.setTop g) target) ∨
    (∃ (q : Addr) (vm₁ : Vm) (B : Pt), s.WarmedH vm₁ ∧ Stand p l e R s m args below meth c B.U B.locs B.cells B.slots ∧ PostX ⟨T.setVm vm₁, locs, cells, slots⟩ argsL.toArray q B ∧
      Steps p.tables e below (T.setTop g) ((B.U.setTop { g with stack := rest }).pushFrame (.throwing q))) := by
  obtain ⟨mk, hnamed⟩ := Cond.code_named hcode
  obtain ⟨methM, cM, hmethM, -, -, -, -, -, -, hsigM⟩ := Cond.code_spec hnamed hcode
  have hstatic : methM.isStatic = true := Cond.static_spec hnamed hmethM hstat
  obtain ⟨kP, hkP, -⟩ := className_of_methodNamed hnamed
  have hinitP : kP.init = .initialized := Cond.initialized_spec (findClass_of_methodNamed hnamed) hkP hinit
  obtain ⟨vm₁, X₁, hstep₁⟩ := X.invokestatic hexec hown hlink hnamed hmethM hstatic hkP hinitP hy (g := g) hg (argsL := argsL) (rest := rest) (hlen _ hsigM) hstack hdg
  rcases hK m meth c ⟨T.setVm vm₁, locs, cells, slots⟩ { g with stack := rest } (.invokestatic index) mk argsL.toArray X₁ hg hsize hdg hW (X₁.named hnamed) (hpre vm₁ X₁.warmed) with ⟨v, B, X', hpost, hsteps⟩ | ⟨q, B, X', hpost, hsteps⟩
  · exact Or.inl ⟨v, vm₁, B, X₁.warmed, X', hpost, fun target h => hstep₁ _ fun acts => by rw [doInvoke_state]; exact hsteps.trans h⟩
  · exact Or.inr ⟨q, vm₁, B, X₁.warmed, X', hpost, hstep₁ _ fun acts => by rw [doInvoke_state]; exact hsteps⟩
end Calls
theorem vx_cls {s : State} {T : State} {vm₁ : Vm} {E : String} {k : ClassId} (hW : s.WarmedH vm₁) (h : (T.setVm vm₁).vm.findClass E = some k) : s.vm.findClass E = some k := by
  have h1 : vm₁.findClass E = some k := h
  rw [hW.alike.findClass] at h1
  exact h1
/-- the method's frame g, with q thrown over it -/
def vx_W (p : Program) (l : Launch) (e : Env) (R : Room) (s : State) (m : MethodId) (args : Array Value) (below : List Frame) (meth : Method) (c : Code) (H : Heap) (locs : List Loc) (cells slots : Nat) (Q : State → Prop) (g : JFrame) (q : Addr) : Prop :=
  ∀ T : State, T.heap = H → Stand p l e R s m args below meth c T locs cells slots → ∃ t, Steps p.tables e below ((T.setTop g).pushFrame (.throwing q)) t ∧ Q t
def vx_Run (p : Program) (l : Launch) (e : Env) (R : Room) (s : State) (m : MethodId) (args : Array Value) (below : List Frame) (meth : Method) (c : Code) (H : Heap) (locs : List Loc) (cells slots mc ms : Nat) (g : JFrame) (rest : List Value) (Qa : State → Outcome → State → Prop) (XC : String → State → State → Prop) (free : Addr → Prop) : Prop :=
  ∀ T : State, T.heap = H → Stand p l e R s m args below meth c T locs cells slots →
    (∃ (v : Option Value) (st₀ t T' : State) (L : List Loc), st₀.heap = H ∧ Stand p l e R s m args below meth c T' (locs ++ L) (cells + mc) (slots + ms) ∧ (∀ q ∈ L, free q.base) ∧ T'.heap = t.heap ∧ T'.vm = t.vm ∧ Qa st₀ (.returned v) t ∧
      Goes p e below T g T' { g with pc := g.pc + 3, stack := v.toList ++ rest }) ∨
    (∃ (q : Addr) (st₀ t T' : State) (L : List Loc) (E : String) (ce : Cell), st₀.heap = H ∧ Stand p l e R s m args below meth c T' (locs ++ L) (cells + mc) (slots + ms) ∧ (∀ z ∈ L, free z.base) ∧ T'.heap = t.heap ∧ T'.vm = t.vm ∧ XC E st₀ t ∧ t.heap[q]? = some ce ∧ ce.vm = .none ∧ s.vm.findClass E = some ce.cls ∧
      Steps p.tables e below (T.setTop g) ((T'.setTop { g with stack := rest }).pushFrame (.throwing q)))
def vx_X {S : Type} (px : S → Prop) (B : String → S → State → Prop) (A : Nat → Prop) : String → State → State → Prop := fun E st t => ∃ u : S, px u ∧ B E u t ∧ va_F A st t
section Runs
variable {p : Program} {l : Launch} {e : Env} {R : Room} {s : State} {m : MethodId} {args : Array Value} {below : List Frame} {meth : Method} {c : Code} {H : Heap} {locs : List Loc} {cells slots : Nat}
variable {y : MethodName} {bytes cc : ByteArray} {maxL nL mc ms n index : Nat} {ret : Option FieldType} {ws : List Cond} {rm : Room} {Pc : Array Value → State → Prop} {Qc : Array Value → State → Outcome → State → Prop} {XC : String → State → State → Prop} {free : Addr → Prop} {Ts : List Cond} {own C : String} {b : Addr} {As rest : List Value} {g : JFrame}
theorem vx_callBack (cb : CallB R s args own index y bytes maxL ret ws rm mc ms n) (hM : vx_Met l y ws rm Pc Qc XC mc ms free) (hbl : FrameBlind Pc) : vx_Back l R p e below s args y 3 8 (PreOf R mc ms Pc) (PostOf Qc mc ms free) (vx_Post XC mc ms free) := by
  obtain ⟨hrc, hrs, hfr, hlo, hws, hcw, -, hini, -⟩ := cb
  exact vx_back (bytes := bytes) (maxL := maxL) (ret := ret) hM hbl hrc hrs hfr hlo hws hcw (fun a' U hW => word_at hW (Or.inl (by first | rfl | simp [Cond.onTables, Cond.keeps, Cond.steady])) hini)
theorem vx_runV (S : CallFix p m c cc nL s args Ts own) (hM : vx_Met l y ws rm Pc Qc XC mc ms free) (cw : CallW R s args own C index y bytes maxL ret ws rm mc ms n) (hp : PreV s H C b Pc As)
    (hg : g.method = m) (hn : As.length = n) (hsize : g.locals.size = nL) (hstack : g.stack = As.reverse ++ .ref b :: rest) (hW : 2 * g.monitorRoom + (rest.map fun v => v.category).sum ≤ 8) (hdg : decode cc g.pc = .ok (.invokevirtual index, 3)) (hf : cells + mc ≤ R.cells ∧ slots + ms ≤ R.slots) :
    vx_Run p l e R s m args below meth c H locs cells slots mc ms g rest (Qc (Value.ref b :: As).toArray) XC free := by
  have hK : vx_Back l R p e below s args y 3 8 (PreOf R mc ms Pc) (PostOf Qc mc ms free) (vx_Post XC mc ms free) := vx_callBack cw.1 hM hp.1
  obtain ⟨⟨-, -, -, -, -, -, hcode, -, hy, hlen, hl⟩, hin, hse⟩ := cw
  obtain ⟨hx, hb, hml, ho, -⟩ := S
  obtain ⟨-, ⟨cellB, hcB, hoB, hclB⟩, hPc⟩ := hp
  intro T hT X
  rcases vx_callV X hx (C := C) (bytes := bytes) (maxL := maxL) (ret := ret) ho hl hin hse hcode hy hK (by rw [hT]; exact hcB) hoB hclB hg (hsize.trans hml.symm) (argsL := As) (rest := rest) (fun sig h => hn.trans (hlen sig h)) hstack hW (by rw [hb]; exact hdg)
    (fun vm₁ hW₁ => ⟨hf.1, hf.2, hPc (T.setVm vm₁) hT hW₁⟩) with ⟨v, vm₁, ⟨U', l2, c2, s2⟩, hW₁, X', ⟨g', mk, t, L, e1, e2, hq, h1, hL, h2, h3⟩, st⟩ | ⟨q, vm₁, ⟨U', l2, c2, s2⟩, hW₁, X', ⟨g', mk, t, L, E, ce, e1, e2, hq, hce, hcv, hcl, h1, hL, h2, h3⟩, st⟩
  · dsimp only [Pt.U, Pt.locs, Pt.cells, Pt.slots] at X' e1 e2 h1 h2 h3 st
    subst h1; subst h2; subst h3
    exact Or.inl ⟨v, (T.setVm vm₁).calling g' mk (Value.ref b :: As).toArray, t, U', L, hT, X', hL, e1, e2, hq, st⟩
  · dsimp only [Pt.U, Pt.locs, Pt.cells, Pt.slots] at X' e1 e2 h1 h2 h3 st hcl
    subst h1; subst h2; subst h3
    exact Or.inr ⟨q, (T.setVm vm₁).calling g' mk (Value.ref b :: As).toArray, t, U', L, E, ce, hT, X', hL, e1, e2, hq, hce, hcv, vx_cls hW₁ hcl, st⟩
theorem vx_runS (S : CallFix p m c cc nL s args Ts own) (hM : vx_Met l y ws rm Pc Qc XC mc ms free) (cw : CallB R s args own index y bytes maxL ret ws rm mc ms n ∧ (Cond.static y).before args s = true) (hp : PreS s H Pc As)
    (hg : g.method = m) (hn : As.length = n) (hsize : g.locals.size = nL) (hstack : g.stack = As.reverse ++ rest) (hW : 2 * g.monitorRoom + (rest.map fun v => v.category).sum ≤ 8) (hdg : decode cc g.pc = .ok (.invokestatic index, 3)) (hf : cells + mc ≤ R.cells ∧ slots + ms ≤ R.slots) :
    vx_Run p l e R s m args below meth c H locs cells slots mc ms g rest (Qc As.toArray) XC free := by
  have hK : vx_Back l R p e below s args y 3 8 (PreOf R mc ms Pc) (PostOf Qc mc ms free) (vx_Post XC mc ms free) := vx_callBack cw.1 hM hp.1
  obtain ⟨⟨-, -, -, -, -, -, hcode, hini, hy, hlen, hl⟩, hstt⟩ := cw
  obtain ⟨hx, hb, hml, ho, -⟩ := S
  intro T hT X
  rcases vx_callS X hx (bytes := bytes) (maxL := maxL) (ret := ret) ho hl hstt hini hcode hy hK hg (hsize.trans hml.symm) (argsL := As) (rest := rest) (fun sig h => hn.trans (hlen sig h)) hstack hW (by rw [hb]; exact hdg)
    (fun vm₁ hW₁ => ⟨hf.1, hf.2, hp.2 (T.setVm vm₁) hT hW₁⟩) with ⟨v, vm₁, ⟨U', l2, c2, s2⟩, hW₁, X', ⟨g', mk, t, L, e1, e2, hq, h1, hL, h2, h3⟩, st⟩ | ⟨q, vm₁, ⟨U', l2, c2, s2⟩, hW₁, X', ⟨g', mk, t, L, E, ce, e1, e2, hq, hce, hcv, hcl, h1, hL, h2, h3⟩, st⟩
  · dsimp only [Pt.U, Pt.locs, Pt.cells, Pt.slots] at X' e1 e2 h1 h2 h3 st
    subst h1; subst h2; subst h3
    exact Or.inl ⟨v, (T.setVm vm₁).calling g' mk As.toArray, t, U', L, hT, X', hL, e1, e2, hq, st⟩
  · dsimp only [Pt.U, Pt.locs, Pt.cells, Pt.slots] at X' e1 e2 h1 h2 h3 st hcl
    subst h1; subst h2; subst h3
    exact Or.inr ⟨q, (T.setVm vm₁).calling g' mk As.toArray, t, U', L, E, ce, hT, X', hL, e1, e2, hq, hce, hcv, vx_cls hW₁ hcl, st⟩
end Runs
section Rows
variable {p : Program} {l : Launch} {e : Env} {R : Room} {s : State} {m : MethodId} {args : Array Value} {below : List Frame} {meth : Method} {c : Code} {H : Heap} {locs : List Loc} {cells slots : Nat} {Q : State → Prop}
variable {mc ms : Nat} {free : Addr → Prop} {A0 A1 : Nat → Prop} {H0 : Heap} {a : Array Value} {pc : Nat} {ls : Array Slot} {st0 rest : List Value}
theorem vx_keep {st₀ t T' : State} {L : List Loc} (h0 : st₀.heap = H) (e1 : T'.heap = t.heap) (hS : va_S A0 H0 H locs) (hA : ∀ q, q < H.size → A1 q → A0 q) (hf : ∀ q, free q → A0 q) (hL : ∀ q ∈ L, free q.base) (hF : va_F A1 st₀ t) :
    H.size ≤ T'.heap.size ∧ (∀ q : Nat, q < H.size → ¬ A1 q → T'.heap[q]? = H[q]?) ∧ va_S A0 H0 T'.heap (locs ++ L) := by
  obtain ⟨hz, hk⟩ := hF
  rw [h0] at hz hk
  exact ⟨by rw [e1]; exact hz, fun q h1 h2 => by rw [e1]; exact hk q h1 h2,
    ⟨Nat.le_trans hS.1 (by rw [e1]; exact hz), fun q h1 h2 => by rw [e1, hk q (Nat.lt_of_lt_of_le h1 hS.1) (fun z => h2 (hA q (Nat.lt_of_lt_of_le h1 hS.1) z))]; exact hS.2.1 q h1 h2, fun q hq => by
      rcases List.mem_append.mp hq with h | h
      · exact hS.2.2 q h
      · exact hf _ (hL q h)⟩⟩
theorem vx_calli {S SX : Type} {post : Int32 → S → Prop} {px : SX → Prop} {B : S → State → Prop} {BX : String → SX → State → Prop} {AX : Nat → Prop} (hr : vx_Run p l e R s m args below meth c H locs cells slots mc ms (F0 m pc ls st0) rest (va_Qi post B A1 a) (vx_X px BX AX) free) (hS : va_S A0 H0 H locs) (hA : ∀ q, q < H.size → A1 q → A0 q) (hf : ∀ q, free q → A0 q) (hAX : ∀ q, q < H.size → AX q → A0 q)
    (kx : ∀ (E : String) (ce : Cell) (q9 : Addr) (u : SX) (t : State) (H1 : Heap) (locs1 : List Loc), t.heap = H1 → s.vm.Alike t.vm → px u → BX E u t → H.size ≤ H1.size → (∀ q : Nat, q < H.size → ¬ AX q → H1[q]? = H[q]?) → va_S A0 H0 H1 locs1 → H1[q9]? = some ce → ce.vm = .none → s.vm.findClass E = some ce.cls → vx_W p l e R s m args below meth c H1 locs1 (cells + mc) (slots + ms) Q (F0 m pc ls rest) q9)
    (kk : ∀ (r : Int32) (u : S) (t : State) (H1 : Heap) (locs1 : List Loc), t.heap = H1 → s.vm.Alike t.vm → post r u → B u t → H.size ≤ H1.size → (∀ q : Nat, q < H.size → ¬ A1 q → H1[q]? = H[q]?) → va_S A0 H0 H1 locs1 → W p l e R s m args below meth c H1 locs1 (cells + mc) (slots + ms) Q (F0 m (pc + 3) ls (.int r :: rest))) : W p l e R s m args below meth c H locs cells slots Q (F0 m pc ls st0) := by
  intro T hT X
  rcases hr T hT X with ⟨v, st₀, t, T', L, h0, X', hL, e1, e2, ⟨⟨r, u, hv, hp, hb⟩, hF⟩, st⟩ | ⟨q, st₀, t, T', L, E, ce, h0, X', hL, e1, e2, ⟨u, hp, hb, hF⟩, hce, hcv, hcl, st⟩
  · cases hv
    obtain ⟨k1, k2, k3⟩ := vx_keep h0 e1 hS hA hf hL hF
    obtain ⟨t2, a1, b1⟩ := kk r u t T'.heap (locs ++ L) e1.symm (by rw [← e2]; exact X'.warmed.alike) hp hb k1 k2 k3 T' rfl X'
    exact ⟨t2, st t2 a1, b1⟩
  · obtain ⟨k1, k2, k3⟩ := vx_keep h0 e1 hS hAX hf hL hF
    obtain ⟨t2, a1, b1⟩ := kx E ce q u t T'.heap (locs ++ L) e1.symm (by rw [← e2]; exact X'.warmed.alike) hp hb k1 k2 k3 (by rw [e1]; exact hce) hcv hcl T' rfl X'
    exact ⟨t2, st.trans a1, b1⟩
theorem vx_calll {S SX : Type} {post : Int64 → S → Prop} {px : SX → Prop} {B : S → State → Prop} {BX : String → SX → State → Prop} {AX : Nat → Prop} (hr : vx_Run p l e R s m args below meth c H locs cells slots mc ms (F0 m pc ls st0) rest (va_Ql post B A1 a) (vx_X px BX AX) free) (hS : va_S A0 H0 H locs) (hA : ∀ q, q < H.size → A1 q → A0 q) (hf : ∀ q, free q → A0 q) (hAX : ∀ q, q < H.size → AX q → A0 q)
    (kx : ∀ (E : String) (ce : Cell) (q9 : Addr) (u : SX) (t : State) (H1 : Heap) (locs1 : List Loc), t.heap = H1 → s.vm.Alike t.vm → px u → BX E u t → H.size ≤ H1.size → (∀ q : Nat, q < H.size → ¬ AX q → H1[q]? = H[q]?) → va_S A0 H0 H1 locs1 → H1[q9]? = some ce → ce.vm = .none → s.vm.findClass E = some ce.cls → vx_W p l e R s m args below meth c H1 locs1 (cells + mc) (slots + ms) Q (F0 m pc ls rest) q9)
    (kk : ∀ (r : Int64) (u : S) (t : State) (H1 : Heap) (locs1 : List Loc), t.heap = H1 → s.vm.Alike t.vm → post r u → B u t → H.size ≤ H1.size → (∀ q : Nat, q < H.size → ¬ A1 q → H1[q]? = H[q]?) → va_S A0 H0 H1 locs1 → W p l e R s m args below meth c H1 locs1 (cells + mc) (slots + ms) Q (F0 m (pc + 3) ls (.long r :: rest))) : W p l e R s m args below meth c H locs cells slots Q (F0 m pc ls st0) := by
  intro T hT X
  rcases hr T hT X with ⟨v, st₀, t, T', L, h0, X', hL, e1, e2, ⟨⟨r, u, hv, hp, hb⟩, hF⟩, st⟩ | ⟨q, st₀, t, T', L, E, ce, h0, X', hL, e1, e2, ⟨u, hp, hb, hF⟩, hce, hcv, hcl, st⟩
  · cases hv
    obtain ⟨k1, k2, k3⟩ := vx_keep h0 e1 hS hA hf hL hF
    obtain ⟨t2, a1, b1⟩ := kk r u t T'.heap (locs ++ L) e1.symm (by rw [← e2]; exact X'.warmed.alike) hp hb k1 k2 k3 T' rfl X'
    exact ⟨t2, st t2 a1, b1⟩
  · obtain ⟨k1, k2, k3⟩ := vx_keep h0 e1 hS hAX hf hL hF
    obtain ⟨t2, a1, b1⟩ := kx E ce q u t T'.heap (locs ++ L) e1.symm (by rw [← e2]; exact X'.warmed.alike) hp hb k1 k2 k3 (by rw [e1]; exact hce) hcv hcl T' rfl X'
    exact ⟨t2, st.trans a1, b1⟩
theorem vx_callf {S SX : Type} {post : UInt32 → S → Prop} {px : SX → Prop} {B : S → State → Prop} {BX : String → SX → State → Prop} {AX : Nat → Prop} (hr : vx_Run p l e R s m args below meth c H locs cells slots mc ms (F0 m pc ls st0) rest (va_Qf post B A1 a) (vx_X px BX AX) free) (hS : va_S A0 H0 H locs) (hA : ∀ q, q < H.size → A1 q → A0 q) (hf : ∀ q, free q → A0 q) (hAX : ∀ q, q < H.size → AX q → A0 q)
    (kx : ∀ (E : String) (ce : Cell) (q9 : Addr) (u : SX) (t : State) (H1 : Heap) (locs1 : List Loc), t.heap = H1 → s.vm.Alike t.vm → px u → BX E u t → H.size ≤ H1.size → (∀ q : Nat, q < H.size → ¬ AX q → H1[q]? = H[q]?) → va_S A0 H0 H1 locs1 → H1[q9]? = some ce → ce.vm = .none → s.vm.findClass E = some ce.cls → vx_W p l e R s m args below meth c H1 locs1 (cells + mc) (slots + ms) Q (F0 m pc ls rest) q9)
    (kk : ∀ (r : UInt32) (u : S) (t : State) (H1 : Heap) (locs1 : List Loc), t.heap = H1 → s.vm.Alike t.vm → post r u → B u t → H.size ≤ H1.size → (∀ q : Nat, q < H.size → ¬ A1 q → H1[q]? = H[q]?) → va_S A0 H0 H1 locs1 → W p l e R s m args below meth c H1 locs1 (cells + mc) (slots + ms) Q (F0 m (pc + 3) ls (.float r :: rest))) : W p l e R s m args below meth c H locs cells slots Q (F0 m pc ls st0) := by
  intro T hT X
  rcases hr T hT X with ⟨v, st₀, t, T', L, h0, X', hL, e1, e2, ⟨⟨r, u, hv, hp, hb⟩, hF⟩, st⟩ | ⟨q, st₀, t, T', L, E, ce, h0, X', hL, e1, e2, ⟨u, hp, hb, hF⟩, hce, hcv, hcl, st⟩
  · cases hv
    obtain ⟨k1, k2, k3⟩ := vx_keep h0 e1 hS hA hf hL hF
    obtain ⟨t2, a1, b1⟩ := kk r u t T'.heap (locs ++ L) e1.symm (by rw [← e2]; exact X'.warmed.alike) hp hb k1 k2 k3 T' rfl X'
    exact ⟨t2, st t2 a1, b1⟩
  · obtain ⟨k1, k2, k3⟩ := vx_keep h0 e1 hS hAX hf hL hF
    obtain ⟨t2, a1, b1⟩ := kx E ce q u t T'.heap (locs ++ L) e1.symm (by rw [← e2]; exact X'.warmed.alike) hp hb k1 k2 k3 (by rw [e1]; exact hce) hcv hcl T' rfl X'
    exact ⟨t2, st.trans a1, b1⟩
theorem vx_calld {S SX : Type} {post : UInt64 → S → Prop} {px : SX → Prop} {B : S → State → Prop} {BX : String → SX → State → Prop} {AX : Nat → Prop} (hr : vx_Run p l e R s m args below meth c H locs cells slots mc ms (F0 m pc ls st0) rest (va_Qd post B A1 a) (vx_X px BX AX) free) (hS : va_S A0 H0 H locs) (hA : ∀ q, q < H.size → A1 q → A0 q) (hf : ∀ q, free q → A0 q) (hAX : ∀ q, q < H.size → AX q → A0 q)
    (kx : ∀ (E : String) (ce : Cell) (q9 : Addr) (u : SX) (t : State) (H1 : Heap) (locs1 : List Loc), t.heap = H1 → s.vm.Alike t.vm → px u → BX E u t → H.size ≤ H1.size → (∀ q : Nat, q < H.size → ¬ AX q → H1[q]? = H[q]?) → va_S A0 H0 H1 locs1 → H1[q9]? = some ce → ce.vm = .none → s.vm.findClass E = some ce.cls → vx_W p l e R s m args below meth c H1 locs1 (cells + mc) (slots + ms) Q (F0 m pc ls rest) q9)
    (kk : ∀ (r : UInt64) (u : S) (t : State) (H1 : Heap) (locs1 : List Loc), t.heap = H1 → s.vm.Alike t.vm → post r u → B u t → H.size ≤ H1.size → (∀ q : Nat, q < H.size → ¬ A1 q → H1[q]? = H[q]?) → va_S A0 H0 H1 locs1 → W p l e R s m args below meth c H1 locs1 (cells + mc) (slots + ms) Q (F0 m (pc + 3) ls (.double r :: rest))) : W p l e R s m args below meth c H locs cells slots Q (F0 m pc ls st0) := by
  intro T hT X
  rcases hr T hT X with ⟨v, st₀, t, T', L, h0, X', hL, e1, e2, ⟨⟨r, u, hv, hp, hb⟩, hF⟩, st⟩ | ⟨q, st₀, t, T', L, E, ce, h0, X', hL, e1, e2, ⟨u, hp, hb, hF⟩, hce, hcv, hcl, st⟩
  · cases hv
    obtain ⟨k1, k2, k3⟩ := vx_keep h0 e1 hS hA hf hL hF
    obtain ⟨t2, a1, b1⟩ := kk r u t T'.heap (locs ++ L) e1.symm (by rw [← e2]; exact X'.warmed.alike) hp hb k1 k2 k3 T' rfl X'
    exact ⟨t2, st t2 a1, b1⟩
  · obtain ⟨k1, k2, k3⟩ := vx_keep h0 e1 hS hAX hf hL hF
    obtain ⟨t2, a1, b1⟩ := kx E ce q u t T'.heap (locs ++ L) e1.symm (by rw [← e2]; exact X'.warmed.alike) hp hb k1 k2 k3 (by rw [e1]; exact hce) hcv hcl T' rfl X'
    exact ⟨t2, st.trans a1, b1⟩
theorem vx_callv {S SX : Type} {post : S → Prop} {px : SX → Prop} {B : S → State → Prop} {BX : String → SX → State → Prop} {AX : Nat → Prop} (hr : vx_Run p l e R s m args below meth c H locs cells slots mc ms (F0 m pc ls st0) rest (va_Qv post B A1 a) (vx_X px BX AX) free) (hS : va_S A0 H0 H locs) (hA : ∀ q, q < H.size → A1 q → A0 q) (hf : ∀ q, free q → A0 q) (hAX : ∀ q, q < H.size → AX q → A0 q)
    (kx : ∀ (E : String) (ce : Cell) (q9 : Addr) (u : SX) (t : State) (H1 : Heap) (locs1 : List Loc), t.heap = H1 → s.vm.Alike t.vm → px u → BX E u t → H.size ≤ H1.size → (∀ q : Nat, q < H.size → ¬ AX q → H1[q]? = H[q]?) → va_S A0 H0 H1 locs1 → H1[q9]? = some ce → ce.vm = .none → s.vm.findClass E = some ce.cls → vx_W p l e R s m args below meth c H1 locs1 (cells + mc) (slots + ms) Q (F0 m pc ls rest) q9)
    (kk : ∀ (u : S) (t : State) (H1 : Heap) (locs1 : List Loc), t.heap = H1 → s.vm.Alike t.vm → post u → B u t → H.size ≤ H1.size → (∀ q : Nat, q < H.size → ¬ A1 q → H1[q]? = H[q]?) → va_S A0 H0 H1 locs1 → W p l e R s m args below meth c H1 locs1 (cells + mc) (slots + ms) Q (F0 m (pc + 3) ls (rest))) : W p l e R s m args below meth c H locs cells slots Q (F0 m pc ls st0) := by
  intro T hT X
  rcases hr T hT X with ⟨v, st₀, t, T', L, h0, X', hL, e1, e2, ⟨⟨u, hv, hp, hb⟩, hF⟩, st⟩ | ⟨q, st₀, t, T', L, E, ce, h0, X', hL, e1, e2, ⟨u, hp, hb, hF⟩, hce, hcv, hcl, st⟩
  · cases hv
    obtain ⟨k1, k2, k3⟩ := vx_keep h0 e1 hS hA hf hL hF
    obtain ⟨t2, a1, b1⟩ := kk u t T'.heap (locs ++ L) e1.symm (by rw [← e2]; exact X'.warmed.alike) hp hb k1 k2 k3 T' rfl X'
    exact ⟨t2, st t2 a1, b1⟩
  · obtain ⟨k1, k2, k3⟩ := vx_keep h0 e1 hS hAX hf hL hF
    obtain ⟨t2, a1, b1⟩ := kx E ce q u t T'.heap (locs ++ L) e1.symm (by rw [← e2]; exact X'.warmed.alike) hp hb k1 k2 k3 (by rw [e1]; exact hce) hcv hcl T' rfl X'
    exact ⟨t2, st.trans a1, b1⟩
/-- caught by the row x of this method's table; the rows ahead don't take it -/
theorem vx_catch {own name : String} {E : String} {ce : Cell} {q : Addr} (hown : s.vm.findClass own = some m.cls) (pre : List ExceptionTableEntry) (x : ExceptionTableEntry) (suf : List ExceptionTableEntry) (hsplit : c.exceptionTable.toList = pre ++ x :: suf)
    (hpass : ∀ z ∈ pre, covers z pc = false ∨ (z.catchType ≠ 0 ∧ ∃ nm : String, (Cond.classLink own z.catchType nm).before args s = true ∧ va_Nc E nm s)) (hx : covers x pc = true) (h0 : x.catchType ≠ 0)
    (hlink : (Cond.classLink own x.catchType name).before args s = true) (hcast : (Cond.castable E name).before args s = true) (hcell : H[q]? = some ce) (hv : ce.vm = .none) (hcl : s.vm.findClass E = some ce.cls)
    (kk : W p l e R s m args below meth c H locs cells slots Q (F0 m x.handlerPc ls [.ref q])) : vx_W p l e R s m args below meth c H locs cells slots Q (F0 m pc ls rest) q := by
  intro T hT X
  have hpl : e.platform.magicAccessors = ({} : Platform).magicAccessors := by rw [X.admits.platform]
  obtain ⟨c3, c4, hc3, hc4, hasg⟩ := Cond.castable_spec hcast
  cases Option.some.inj (hc3.symm.trans hcl)
  obtain ⟨c5, hc5, hcl5⟩ := Cond.classLink_spec hown hlink e.platform hpl
  cases Option.some.inj (hc4.symm.trans hc5)
  obtain ⟨vm', X', st⟩ := X.thenCaughtThrough q (g := F0 m pc ls rest) rfl (Steps.refl _) (by rw [hT]; exact hcell) (by rw [hv]; rfl) (by obtain ⟨k9, h9, -⟩ := Vm.findClass_spec hcl; exact ⟨k9, h9⟩) pre x suf hsplit
    (fun z hz => by
      rcases hpass z hz with h | ⟨hz0, nm, hl1, hn1⟩
      · exact Or.inl h
      · obtain ⟨c6, hc6, hcl6⟩ := Cond.classLink_spec hown hl1 e.platform hpl
        obtain ⟨a8, b8, h1, h2, h3⟩ := hn1
        cases Option.some.inj (h1.symm.trans hcl)
        cases Option.some.inj (h2.symm.trans hc6)
        exact Or.inr ⟨hz0, _, hcl6, h3⟩) hx (Or.inr ⟨h0, c4, hcl5, hasg⟩)
  obtain ⟨t, a1, b1⟩ := kk (T.setVm vm') hT X'
  exact ⟨t, st.trans a1, b1⟩
end Rows
section Ends
variable {p : Program} {l : Launch} {e : Env} {R : Room} {s : State} {m : MethodId} {args : Array Value} {below : List Frame} {meth : Method} {c : Code} {H : Heap} {locs : List Loc} {cells slots : Nat} {Q : State → Prop}
variable {mc ms : Nat} {free : Addr → Prop} {A0 A1 : Nat → Prop} {H0 : Heap} {a : Array Value} {ls : Array Slot} {st0 rest : List Value}
variable {Qc : Array Value → State → Outcome → State → Prop} {XC : String → State → State → Prop}
/-- what a body that may throw owes at its end -/
def vx_MQ (below : List Frame) (Qc : Array Value → State → Outcome → State → Prop) (XC : String → State → State → Prop) (a : Array Value) (s : State) (mc ms : Nat) (free : Addr → Prop) : State → Prop := fun t =>
  ∃ o, t.status = .running ∧ Ended t below o ∧ vx_Q Qc XC mc ms free a s o t
theorem vx_ret {g : JFrame} {mc ms : Nat} (k : W p l e R s m args below meth c H locs cells slots (MQ below Qc args s mc ms free) g) : W p l e R s m args below meth c H locs cells slots (vx_MQ below Qc XC args s mc ms free) g := by
  intro T hT X
  obtain ⟨t, a1, o, b1, b2, b3, b4⟩ := k T hT X
  exact ⟨t, a1, o, b1, b2, Or.inl ⟨b3, b4⟩⟩
/-- not caught here: it goes on to the caller -/
theorem vx_widen {g : JFrame} {q : Addr} {k n : Nat} (h1 : cells ≤ k) (h2 : slots ≤ n) (kk : vx_W p l e R s m args below meth c H locs k n Q g q) : vx_W p l e R s m args below meth c H locs cells slots Q g q := fun T hT X => kk T hT (stand_widen X h1 h2)
theorem vx_out {pc : Nat} {E : String} {ce : Cell} {q : Addr} {mc ms : Nat} (hout : ∀ x ∈ c.exceptionTable.toList, covers x pc = false) (hlocks : meth.locks = false) (hcell : H[q]? = some ce) (hv : ce.vm = .none) (hcl : s.vm.findClass E = some ce.cls)
    (hx : ∀ t : State, t.heap = H → s.vm.Alike t.vm → XC E s t) (hf : ∀ z ∈ locs, free z.base) (hc : cells ≤ mc) (hs : slots ≤ ms) :
    vx_W p l e R s m args below meth c H locs cells slots (vx_MQ below Qc XC args s mc ms free) (F0 m pc ls rest) q := by
  intro T hT X
  obtain ⟨st1, hrun, hend, hW, hsm⟩ := X.leaveThrown q (g := F0 m pc ls rest) rfl rfl rfl hout hlocks
  have hcell9 : (T.setFrames (.throwing q :: below)).heap[q]? = some ce := by
    show T.heap[q]? = some ce
    rw [hT]; exact hcell
  exact ⟨_, st1, .threw q, hrun, hend, Or.inr ⟨q, rfl, E, ce, locs, hx _ hT hW.alike, hcell9, hv, hcl, hW, hsm.mono hc hs, hf⟩⟩
theorem vx_frame {U : State} {k n : Nat} (h : s.sameButNew ({ U with vm := s.vm } : State) locs k n) : s.heap.size ≤ U.heap.size ∧ ∀ q : Nat, q < s.heap.size → (∀ z ∈ locs, z.base ≠ q) → U.heap[q]? = s.heap[q]? := by
  obtain ⟨-, h2, -, -, -, h6⟩ := h
  refine ⟨h2, fun q hq hz => ?_⟩
  obtain ⟨c9, e1, e2, e3, e4⟩ := h6 q _ (Array.getElem?_eq_getElem hq)
  have hs : c9.slots = (s.heap[q]).slots := Array.ext_getElem? fun i => e4 i fun hm => hz _ hm rfl
  have h9 : c9 = s.heap[q] := by
    rw [hs] at e2
    exact e2
  have e5 : U.heap[q]? = some c9 := e1
  rw [e5, h9, Array.getElem?_eq_getElem hq]
/-- the words of a throw but the four that speak of the heap -/
def vx_no (w : Cond) : Bool := decide (w ≠ .isRef (.static Bundle.tN "UNASSIGNED_STACK" Bundle.steD)) && decide (w ≠ .isRef (.static Bundle.tN "SUPPRESSED_SENTINEL" Bundle.listD)) && decide (w ≠ .laysStatic Bundle.tN "UNASSIGNED_STACK" Bundle.steD) && decide (w ≠ .laysStatic Bundle.tN "SUPPRESSED_SENTINEL" Bundle.listD)
def vx_at0 (own : String) (ic : Nat) (X : String) (names : List String) : List Cond := (Bundle.ownAtoms0 own ic X names).filter vx_no
def vx_atS (own : String) (ic : Nat) (X : String) (names : List String) : List Cond := (Bundle.ownAtoms own ic X names).filter vx_no
/-- a word that the tables alone decide, or a good one -/
def vx_ot (w : Cond) : Bool := w.onTables || goodWord w
theorem vx_ot_at {args a' : Array Value} {s U : State} {w : Cond} (hW : s.WarmedH U.vm) (hvm : s.vm = U.vm) (hg : vx_ot w = true) (h : w.before args s = true) : w.before a' U = true := by
  simp only [vx_ot, Bool.or_eq_true] at hg
  rcases hg with hg | hg
  · exact va_tabs hg hvm h
  · exact word_at hW (good_of_word hg) h
/-- a list's words: the good ones out of the method's own list, the others by premises of their own -/
theorem vx_hat {args : Array Value} {s : State} {L B : List Cond} (h1 : ∀ w ∈ L.filter goodWord, w.before args s = true) (h2 : ∀ w ∈ L.filter (fun w => !goodWord w), w ∈ B) (h3 : ∀ w ∈ B, w.before args s = true) : ∀ w ∈ L, w.before args s = true := by
  intro w hw
  by_cases g : goodWord w = true
  · exact h1 w (List.mem_filter.mpr ⟨hw, g⟩)
  · refine h3 w (h2 w (List.mem_filter.mpr ⟨hw, ?_⟩))
    show (!goodWord w) = true
    cases hgw : goodWord w
    · rfl
    · exact absurd hgw g
theorem vx_c {args : Array Value} {s : State} {w : Cond} {B : List Cond} (h : w.before args s = true) (t : ∀ w ∈ B, w.before args s = true) : ∀ w' ∈ w :: B, w'.before args s = true := fun w' h' => (List.mem_cons.mp h').elim (fun e => by rw [e]; exact h) (t w')
theorem vx_n {args : Array Value} {s : State} : ∀ w ∈ ([] : List Cond), w.before args s = true := fun _ h => nomatch h
theorem vx_own {args : Array Value} {s : State} {L : List Cond} (h1 : ∀ w ∈ L.filter vx_no, w.before args s = true)
    (hU : (Cond.isRef (.static Bundle.tN "UNASSIGNED_STACK" Bundle.steD)).before args s = true) (hN : (Cond.isRef (.static Bundle.tN "SUPPRESSED_SENTINEL" Bundle.listD)).before args s = true)
    (lU : (Cond.laysStatic Bundle.tN "UNASSIGNED_STACK" Bundle.steD).before args s = true) (lN : (Cond.laysStatic Bundle.tN "SUPPRESSED_SENTINEL" Bundle.listD).before args s = true) : ∀ w ∈ L, w.before args s = true := by
  intro w hw
  by_cases e1 : w = .isRef (.static Bundle.tN "UNASSIGNED_STACK" Bundle.steD)
  · rw [e1]; exact hU
  · by_cases e2 : w = .isRef (.static Bundle.tN "SUPPRESSED_SENTINEL" Bundle.listD)
    · rw [e2]; exact hN
    · by_cases e3 : w = .laysStatic Bundle.tN "UNASSIGNED_STACK" Bundle.steD
      · rw [e3]; exact lU
      · by_cases e4 : w = .laysStatic Bundle.tN "SUPPRESSED_SENTINEL" Bundle.listD
        · rw [e4]; exact lN
        · exact h1 w (List.mem_filter.mpr ⟨hw, by unfold vx_no; rw [decide_eq_true e1, decide_eq_true e2, decide_eq_true e3, decide_eq_true e4]; rfl⟩)
/-- where a static field lies, its class's statics cell in H -/
def vx_L (C n d : String) (A : Nat → Prop) (U : State) (H : Heap) : Prop := ∃ (c : ClassId) (k : Class) (i : Nat) (f : Field) (a : Nat) (cell : Cell), U.vm.findClass C = some c ∧ U.fieldFound? C n d = some (c, k, i, f) ∧ f.isStatic = true ∧ k.statics = some a ∧ H[a]? = some cell ∧ cell.vm.isStatics = true ∧ cell.cls = c ∧ f.slot < cell.slots.size ∧ k.staticTypes[f.slot]? = some f.type ∧ ¬ A a
theorem vx_L.moved {C n d : String} {A : Nat → Prop} {u U : State} {H : Heap} (hvm : u.vm.Alike U.vm) (h : vx_L C n d A u H) : vx_L C n d A U H := by
  obtain ⟨c, k, i, f, a, cell, h1, h2, h3, h4, h5, h6, h7, h8, h9, h10⟩ := h
  obtain ⟨k', hi', he⟩ := State.fieldFound?_setVm hvm h2
  exact ⟨c, k', i, f, a, cell, by rw [hvm.findClass]; exact h1, hi', h3, by rw [he]; exact h4, h5, h6, h7, h8, by rw [he]; exact h9, h10⟩
theorem vx_L.kept {C n d : String} {A : Nat → Prop} {U : State} {H H1 : Heap} (h : vx_L C n d A U H) (hq : ∀ a : Nat, a < H.size → ¬ A a → H1[a]? = H[a]?) : vx_L C n d A U H1 := by
  obtain ⟨c, k, i, f, a, cell, h1, h2, h3, h4, h5, h6, h7, h8, h9, h10⟩ := h
  exact ⟨c, k, i, f, a, cell, h1, h2, h3, h4, by rw [hq a (Array.getElem?_eq_some_iff.mp h5).1 h10]; exact h5, h6, h7, h8, h9, h10⟩
theorem vx_L.narrow {C n d : String} {A B : Nat → Prop} {U : State} {H : Heap} (h : vx_L C n d A U H) (hAB : ∀ q, B q → A q) : vx_L C n d B U H := by
  obtain ⟨c, k, i, f, a, cell, h1, h2, h3, h4, h5, h6, h7, h8, h9, h10⟩ := h
  exact ⟨c, k, i, f, a, cell, h1, h2, h3, h4, h5, h6, h7, h8, h9, fun z => h10 (hAB _ z)⟩
theorem vx_L.word {C n d : String} {A : Nat → Prop} {s : State} {args : Array Value} (h : vx_L C n d A s s.heap) : (Cond.laysStatic C n d).before args s = true := by
  obtain ⟨c, k, i, f, a, cell, h1, h2, h3, h4, h5, h6, h7, h8, h9, -⟩ := h
  show (Cond.laysStatic C n d).holds args s none s [] = true
  exact Cond.laysStatic_of h1 h2 h3 h4 h5 h6 h7 h8 h9
/-- .. and what it holds: null or some reference -/
def vx_Zq (C n d : String) (A : Nat → Prop) (U : State) (H : Heap) : Prop := va_Zq C n d A U H ∧ vx_L C n d A U H
theorem vx_Zq.moved {C n d : String} {A : Nat → Prop} {u U : State} {H : Heap} (hvm : u.vm.Alike U.vm) (h : vx_Zq C n d A u H) : vx_Zq C n d A U H := ⟨va_Zq.moved hvm h.1, vx_L.moved hvm h.2⟩
theorem vx_Zq.kept {C n d : String} {A : Nat → Prop} {U : State} {H H1 : Heap} (h : vx_Zq C n d A U H) (hq : ∀ a : Nat, a < H.size → ¬ A a → H1[a]? = H[a]?) : vx_Zq C n d A U H1 := ⟨va_Zq.kept h.1 hq, vx_L.kept h.2 hq⟩
theorem vx_Zq.narrow {C n d : String} {A B : Nat → Prop} {U : State} {H : Heap} (h : vx_Zq C n d A U H) (hAB : ∀ q, B q → A q) : vx_Zq C n d B U H := ⟨va_Zq.narrow h.1 hAB, vx_L.narrow h.2 hAB⟩
theorem vx_Zqof {args : Array Value} {s : State} {C n d : String} {A : Nat → Prop} (hl : (Cond.laysStatic C n d).before args s = true) (hini : (Cond.initialized C).before args s = true) (h : (Cond.isRef (.static C n d)).before args s = true) (hA : ∀ a : Nat, a < s.heap.size → ¬ A a) : vx_Zq C n d A s s.heap := by
  refine ⟨va_Zqof hl hini h hA, ?_⟩
  obtain ⟨c, k, i, f, a, cell, h1, h2, h3, h4, h5, h6, h7, h8, h9⟩ := Cond.laysStatic_spec hl
  exact ⟨c, k, i, f, a, cell, h1, h2, h3, h4, h5, h6, h7, h8, h9, hA a (Array.getElem?_eq_some_iff.mp h5).1⟩
theorem vx_isRef {C n d : String} {v : Value} {A : Nat → Prop} {s : State} {args : Array Value} (h : va_Z C n d v A s s.heap) (hv : v.isRef = true) : (Cond.isRef (.static C n d)).before args s = true := by
  obtain ⟨cf, kf, fi, f, a, cell, h1, h2, h3, h4, h5, h6, h7, -⟩ := h
  have he : (Term.static C n d).eval args s none [] s = some v := by
    simp [Term.eval, State.fieldNamed?, h1, h2, h4, h5, h6, h7]
  simp only [Cond.before, Cond.holds, Cond.value, he]
  cases v <;> simp_all [Value.isRef]
theorem vx_isRefq {C n d : String} {A : Nat → Prop} {s : State} {args : Array Value} (h : va_Zq C n d A s s.heap) : (Cond.isRef (.static C n d)).before args s = true := by
  rcases h with h | ⟨t, h⟩
  · exact vx_isRef h rfl
  · exact vx_isRef h rfl
/-- the same frame, seen from here: as if the method were called anew in this heap -/
theorem vx_rebase {T : State} (X : Stand p l e R s m args below meth c T locs cells slots) {R' : Room} (hf : R'.frames ≤ R.frames) (hl : R'.locals ≤ R.locals) (hc : cells + R'.cells ≤ R.cells) (hs : slots + R'.slots ≤ R.slots) :
    Stand p l e R' ((T.setVm s.vm).setFrames (.invoking m args :: below)) m args below meth c T [] 0 0 := by
  have htop : (T.setVm s.vm).topJava?.isSome := X.here.top
  have hF : ((T.setVm s.vm).setFrames (.invoking m args :: below)).frames = .invoking m args :: below := State.frames_setFrames _ (State.cur_lt_of_top htop)
  obtain ⟨g₀, hg0⟩ := Option.isSome_iff_exists.mp htop
  obtain ⟨r, hr⟩ := State.topJava?_eq_some.mp hg0
  have hl9 : e.platform.stackLimits (T.setVm s.vm).me = e.platform.stackLimits s.me := X.limits
  have hb9 : (T.setVm s.vm).me.stackBytes = s.me.stackBytes := X.bytes
  refine ⟨X.admits, X.cas, X.clock, hF, ?_, X.hears, X.method, X.code, X.here, X.tail, X.warmed, ?_, ?_, ?_⟩
  · have h := X.room
    have hU : ((T.setVm s.vm).setFrames (.invoking m args :: below)).localsInUse = s.localsInUse := by
      rw [State.localsInUse_invoking hF (meth := meth) (c := c) X.method X.code, State.localsInUse_invoking X.frames X.method X.code]
    simp only [State.hasRoom, Bool.and_eq_true, decide_eq_true_eq] at h ⊢
    obtain ⟨⟨⟨⟨h1, h2, h3, h4, h5, h6⟩, h7⟩, h8⟩, h9⟩ := h
    rw [X.frames, List.length_cons] at h2 h3
    have q1 := X.heapSize
    have q2 := X.used
    simp only [hF, hU, List.length_cons, State.stackLimits_setFrames, State.stackBytes_setFrames, hl9, hb9]
    refine ⟨⟨⟨⟨by omega, by omega, by omega, by omega, by omega, h6⟩, ?_⟩, ?_⟩, X.book⟩
    · show T.heap.size + R'.cells ≤ e.platform.maxCells
      omega
    · show T.slotsUsed + R'.slots ≤ e.platform.maxSlots
      omega
  · rw [State.stackLimits_setFrames]; rfl
  · rw [State.stackBytes_setFrames]; rfl
  · refine ⟨?_, Nat.le_refl _, Nat.le_refl _, ?_, ?_, fun a c9 h9 => ⟨c9, h9, rfl, rfl, fun _ _ => rfl⟩⟩
    · obtain ⟨t, ht, -⟩ := State.frames_cons hr
      show T.setVm s.vm = { ((T.setVm s.vm).setFrames (.invoking m args :: below)).setFrames (T.setVm s.vm).frames with heap := T.heap, slotsUsed := T.slotsUsed }
      rw [State.setFrames_setFrames, State.setFrames_self ht]
      rfl
    · show T.slotsUsed = T.slotsUsed + ((T.heap.toList.drop T.heap.size).map (·.slots.size)).sum
      rw [List.drop_eq_nil_of_le (Nat.le_of_eq Array.length_toList)]
      rfl
    · show ((T.heap.toList.drop T.heap.size).map (·.slots.size)).sum ≤ 0
      rw [List.drop_eq_nil_of_le (Nat.le_of_eq Array.length_toList)]
      exact Nat.le_refl _
/-- 'throw new E()': new; dup; invokespecial; athrow -/
theorem vx_throw0 {cc : ByteArray} {pc : Nat} (hexec : p.tables.exec = Jvm.exec) (hb : c.code = cc) (hl : l.stackTraces = false) {own cls : String} {names : List String} {ik ic mc ms : Nat} {A : Nat → Prop}
    (hown : s.vm.findClass own = some m.cls) (hcls : Bundle.fit cls = true) (hnames : ∀ n ∈ names, Bundle.fit n = true)
    (hk : (Cond.classLink own ik cls).before args s = true) (hini : (Cond.initialized cls).before args s = true) (hat : ∀ w ∈ vx_at0 own ic cls names, w.before args s = true)
    (hgood : ∀ w ∈ Cond.classLink own ik cls :: Cond.initialized cls :: vx_at0 own ic cls names, vx_ot w = true)
    (hU : vx_Zq Bundle.tN "UNASSIGNED_STACK" Bundle.steD A s s.heap) (hN : vx_Zq Bundle.tN "SUPPRESSED_SENTINEL" Bundle.listD A s s.heap) (hS : va_S A s.heap H locs) (hsize : ls.size = c.maxLocals)
    (d0 : decode cc pc = .ok (.new ik, 3)) (d3 : decode cc (pc + 3) = .ok (.dup, 1)) (d4 : decode cc (pc + 4) = .ok (.invokespecial ic, 3)) (d7 : decode cc (pc + 7) = .ok (.athrow, 1))
    (hout : ∀ x ∈ c.exceptionTable.toList, covers x (pc + 7) = false)
    (hRframes : names.length + 3 < R.frames) (hRlocals : (rest.map fun v => v.category).sum + (13 * (names.length + 1) + 42) ≤ R.locals) (hRcells : cells + 1 ≤ R.cells) (hRslots : slots + 6 ≤ R.slots) (hlocks : meth.locks = false)
    (hx : ∀ t : State, s.vm.Alike t.vm → H.size ≤ t.heap.size → (∀ q : Nat, q < H.size → t.heap[q]? = H[q]?) → XC cls s t)
    (hf : ∀ z ∈ locs, free z.base) (hc : cells + 1 ≤ mc) (hs : slots + 6 ≤ ms) :
    W p l e R s m args below meth c H locs cells slots (vx_MQ below Qc XC args s mc ms free) (F0 m pc ls rest) := by
  intro T hT X
  have htr : e.platform.stackTraces = false := (show e.platform.stackTraces = l.stackTraces by rw [X.admits.platform]).trans hl
  have Y := vx_rebase X (R' := { frames := R.frames, locals := R.locals, cells := 1, slots := 6 }) (Nat.le_refl _) (Nat.le_refl _) hRcells hRslots
  obtain ⟨s', hA⟩ : ∃ z, z = (T.setVm s.vm).setFrames (.invoking m args :: below) := ⟨_, rfl⟩
  rw [← hA] at Y
  have hvm : s'.vm = s.vm := by rw [hA]; rfl
  have hhp : s'.heap = H := by rw [hA]; exact hT
  have hW0 : s.WarmedH s'.vm := by rw [hvm]; exact State.WarmedH.refl s
  have hat' : ∀ w ∈ vx_at0 own ic cls names, w.before args s' = true := fun w hw => vx_ot_at hW0 hvm.symm (hgood w (List.mem_cons_of_mem _ (List.mem_cons_of_mem _ hw))) (hat w hw)
  have hk' : (Cond.classLink own ik cls).before args s' = true := vx_ot_at hW0 hvm.symm (hgood _ List.mem_cons_self) hk
  have hini' : (Cond.initialized cls).before args s' = true := vx_ot_at hW0 hvm.symm (hgood _ (List.mem_cons_of_mem _ List.mem_cons_self)) hini
  have hU' : vx_Zq Bundle.tN "UNASSIGNED_STACK" Bundle.steD A s' s'.heap := by rw [hhp]; exact vx_Zq.moved hW0.alike (hU.kept hS.2.1)
  have hN' : vx_Zq Bundle.tN "SUPPRESSED_SENTINEL" Bundle.listD A s' s'.heap := by rw [hhp]; exact vx_Zq.moved hW0.alike (hN.kept hS.2.1)
  have h : ∀ w ∈ Bundle.ownAtoms0 own ic cls names, w.before args s' = true := vx_own hat' (vx_isRefq hU'.1) (vx_isRefq hN'.1) hU'.2.word hN'.2.word
  have hown' : s'.vm.findClass own = some m.cls := by rw [hvm]; exact hown
  have hins : (Cond.instantiable cls 6).before args s' = true := h _ (by simp [Bundle.ownAtoms0])
  obtain ⟨vm₁, cX, kX, hfX, hkX, -, -, X₁, st1⟩ := Y.newCold hexec (own := own) (C := cls) (index := ik) (n := 6) hown' hk' hins hini'
    (g := F0 m pc ls rest) rfl (by rw [hb]; exact d0) (Nat.le_refl _) (Nat.le_refl _)
  generalize hT1 : (T.setVm vm₁).pushCell { cls := cX, slots := kX.instanceTypes.map defaultValue, vm := .none } = T1 at X₁ st1
  have hcat : (Value.ref T.heap.size).category = 1 := rfl
  have hcellA : T1.heap[T.heap.size]? = some (freshCell cX kX) := by rw [← hT1]; exact State.heap_pushCell_size _ _
  have d3' : decode c.code (pc + 3) = .ok (.dup, 1) := by rw [hb]; exact d3
  obtain ⟨U, hsteps, hrun, hend, hW, hsame, ce, hce, hO⟩ := X₁.ctorThrow0 hexec htr (own := own) (cls := cls) (names := names) (ic := ic) hown' hcls hnames h (fun x hx => nomatch hx) hfX hkX hcellA (by rw [hhp, hT]; exact Nat.le_refl _)
    (g := { method := m, pc := pc + 4, locals := ls, stack := .ref T.heap.size :: .ref T.heap.size :: rest, locked := none }) rfl hsize rfl rfl (rest := rest) rfl
    (by rw [hb]; exact d4) (by rw [hb]; exact d7) hout hRframes (by simp only [List.map_cons, List.sum_cons, hcat]; omega) hlocks
  obtain ⟨f1, f2⟩ := vx_frame hsame
  rw [hhp] at f1 f2
  have hWs : s.WarmedH U.vm := State.WarmedH.trans hW0 hW
  have hcl : s.vm.findClass cls = some ce.cls := by
    have h9 := hO.cls
    rw [hvm] at h9
    exact h9
  have hall : s.sameButNew ({ U with vm := s.vm } : State) locs mc ms := by
    subst hA
    obtain ⟨e1, e2⟩ := hsame
    rw [State.setFrames_setFrames] at e1
    have h2 : (T.setVm s.vm).sameButNew ({ U with vm := s.vm } : State) [] (0 + 1) (0 + 6) := ⟨e1, e2⟩
    have h3 := X.same.trans h2
    rw [List.append_nil] at h3
    exact h3.mono hc hs
  refine ⟨U, ?_, .threw T.heap.size, hrun, hend, Or.inr ⟨T.heap.size, rfl, cls, ce, locs, hx U hWs.alike f1 (fun q hq => f2 q hq (fun z hz => nomatch hz)), hce, hO.vm, hcl, hWs, hall, hf⟩⟩
  refine st1 _ ?_
  show Steps p.tables e below (T1.setTop { method := m, pc := pc + 3, locals := ls, stack := .ref T.heap.size :: rest, locked := none }) _
  jvm_step X₁.here [X₁.here.top, hexec, d3', Value.category]
  exact hsteps
/-- 'throw new E("text")': new; dup; ldc; invokespecial; athrow -/
theorem vx_throwS {cc : ByteArray} {pc : Nat} (hexec : p.tables.exec = Jvm.exec) (hb : c.code = cc) (hl : l.stackTraces = false) {own cls text : String} {names : List String} {ik is ic mc ms sa : Nat} {A : Nat → Prop}
    (hown : s.vm.findClass own = some m.cls) (hcls : Bundle.fit cls = true) (hnames : ∀ n ∈ names, Bundle.fit n = true)
    (hk : (Cond.classLink own ik cls).before args s = true) (hini : (Cond.initialized cls).before args s = true) (hstr : vk_R own is text sa s) (hat : ∀ w ∈ vx_atS own ic cls names, w.before args s = true)
    (hgood : ∀ w ∈ Cond.classLink own ik cls :: Cond.initialized cls :: vx_atS own ic cls names, vx_ot w = true)
    (hU : vx_Zq Bundle.tN "UNASSIGNED_STACK" Bundle.steD A s s.heap) (hN : vx_Zq Bundle.tN "SUPPRESSED_SENTINEL" Bundle.listD A s s.heap) (hS : va_S A s.heap H locs) (hsize : ls.size = c.maxLocals)
    (d0 : decode cc pc = .ok (.new ik, 3)) (d3 : decode cc (pc + 3) = .ok (.dup, 1)) (d4 : decode cc (pc + 4) = .ok (.ldc is, 2)) (d6 : decode cc (pc + 6) = .ok (.invokespecial ic, 3)) (d9 : decode cc (pc + 9) = .ok (.athrow, 1))
    (hout : ∀ x ∈ c.exceptionTable.toList, covers x (pc + 9) = false)
    (hRframes : names.length + 3 < R.frames) (hRlocals : (rest.map fun v => v.category).sum + (13 * (names.length + 1) + 43) ≤ R.locals) (hRcells : cells + 1 ≤ R.cells) (hRslots : slots + 6 ≤ R.slots) (hlocks : meth.locks = false)
    (hx : ∀ t : State, s.vm.Alike t.vm → H.size ≤ t.heap.size → (∀ q : Nat, q < H.size → t.heap[q]? = H[q]?) → XC cls s t)
    (hf : ∀ z ∈ locs, free z.base) (hc : cells + 1 ≤ mc) (hs : slots + 6 ≤ ms) :
    W p l e R s m args below meth c H locs cells slots (vx_MQ below Qc XC args s mc ms free) (F0 m pc ls rest) := by
  intro T hT X
  have htr : e.platform.stackTraces = false := (show e.platform.stackTraces = l.stackTraces by rw [X.admits.platform]).trans hl
  have Y := vx_rebase X (R' := { frames := R.frames, locals := R.locals, cells := 1, slots := 6 }) (Nat.le_refl _) (Nat.le_refl _) hRcells hRslots
  obtain ⟨s', hA⟩ : ∃ z, z = (T.setVm s.vm).setFrames (.invoking m args :: below) := ⟨_, rfl⟩
  rw [← hA] at Y
  have hvm : s'.vm = s.vm := by rw [hA]; rfl
  have hhp : s'.heap = H := by rw [hA]; exact hT
  have hW0 : s.WarmedH s'.vm := by rw [hvm]; exact State.WarmedH.refl s
  have hat' : ∀ w ∈ vx_atS own ic cls names, w.before args s' = true := fun w hw => vx_ot_at hW0 hvm.symm (hgood w (List.mem_cons_of_mem _ (List.mem_cons_of_mem _ hw))) (hat w hw)
  have hk' : (Cond.classLink own ik cls).before args s' = true := vx_ot_at hW0 hvm.symm (hgood _ List.mem_cons_self) hk
  have hini' : (Cond.initialized cls).before args s' = true := vx_ot_at hW0 hvm.symm (hgood _ (List.mem_cons_of_mem _ List.mem_cons_self)) hini
  have hU' : vx_Zq Bundle.tN "UNASSIGNED_STACK" Bundle.steD A s' s'.heap := by rw [hhp]; exact vx_Zq.moved hW0.alike (hU.kept hS.2.1)
  have hN' : vx_Zq Bundle.tN "SUPPRESSED_SENTINEL" Bundle.listD A s' s'.heap := by rw [hhp]; exact vx_Zq.moved hW0.alike (hN.kept hS.2.1)
  have h : ∀ w ∈ Bundle.ownAtoms own ic cls names, w.before args s' = true := vx_own hat' (vx_isRefq hU'.1) (vx_isRefq hN'.1) hU'.2.word hN'.2.word
  have hown' : s'.vm.findClass own = some m.cls := by rw [hvm]; exact hown
  have hins : (Cond.instantiable cls 6).before args s' = true := h _ (by simp [Bundle.ownAtoms])
  obtain ⟨vm₁, cX, kX, hfX, hkX, -, -, X₁, st1⟩ := Y.newCold hexec (own := own) (C := cls) (index := ik) (n := 6) hown' hk' hins hini'
    (g := F0 m pc ls rest) rfl (by rw [hb]; exact d0) (Nat.le_refl _) (Nat.le_refl _)
  generalize hT1 : (T.setVm vm₁).pushCell { cls := cX, slots := kX.instanceTypes.map defaultValue, vm := .none } = T1 at X₁ st1
  have hcat : (Value.ref T.heap.size).category = 1 := rfl
  have hcellA : T1.heap[T.heap.size]? = some (freshCell cX kX) := by rw [← hT1]; exact State.heap_pushCell_size _ _
  have d3' : decode c.code (pc + 3) = .ok (.dup, 1) := by rw [hb]; exact d3
  have d4' : decode c.code (pc + 4) = .ok (.ldc is, 2) := by rw [hb]; exact d4
  have hstr' : vk_R own is text sa s' := vk_R.warm hW0 hstr
  obtain ⟨U, hsteps, hrun, hend, hW, hsame, ce, hce, hO⟩ := X₁.ctorThrowS hexec htr (own := own) (cls := cls) (names := names) (ic := ic) hown' hcls hnames h (fun x hx => nomatch hx) hfX hkX hcellA (by rw [hhp, hT]; exact Nat.le_refl _) (msg := .ref sa) rfl
    (g := { method := m, pc := pc + 6, locals := ls, stack := .ref sa :: .ref T.heap.size :: .ref T.heap.size :: rest, locked := none }) rfl hsize rfl rfl (rest := rest) rfl
    (by rw [hb]; exact d6) (by rw [hb]; exact d9) hout hRframes (by simp only [List.map_cons, List.sum_cons, hcat]; omega) hlocks
  obtain ⟨f1, f2⟩ := vx_frame hsame
  rw [hhp] at f1 f2
  have hWs : s.WarmedH U.vm := State.WarmedH.trans hW0 hW
  have hcl : s.vm.findClass cls = some ce.cls := by
    have h9 := hO.cls
    rw [hvm] at h9
    exact h9
  have hall : s.sameButNew ({ U with vm := s.vm } : State) locs mc ms := by
    subst hA
    obtain ⟨e1, e2⟩ := hsame
    rw [State.setFrames_setFrames] at e1
    have h2 : (T.setVm s.vm).sameButNew ({ U with vm := s.vm } : State) [] (0 + 1) (0 + 6) := ⟨e1, e2⟩
    have h3 := X.same.trans h2
    rw [List.append_nil] at h3
    exact h3.mono hc hs
  refine ⟨U, ?_, .threw T.heap.size, hrun, hend, Or.inr ⟨T.heap.size, rfl, cls, ce, locs, hx U hWs.alike f1 (fun q hq => f2 q hq (fun z hz => nomatch hz)), hce, hO.vm, hcl, hWs, hall, hf⟩⟩
  refine st1 _ ?_
  show Steps p.tables e below (T1.setTop { method := m, pc := pc + 3, locals := ls, stack := .ref T.heap.size :: rest, locked := none }) _
  jvm_step X₁.here [X₁.here.top, hexec, d3', Value.category]
  exact X₁.ldcString hexec (own := own) (text := text) (index := is) (a := sa) hown' hstr'.1 hstr'.2
    (g := { method := m, pc := pc + 4, locals := ls, stack := .ref T.heap.size :: .ref T.heap.size :: rest, locked := none }) rfl d4' _ hsteps
/-- 'throw new E("text")', the text by a wide index -/
theorem vx_throwSW {cc : ByteArray} {pc : Nat} (hexec : p.tables.exec = Jvm.exec) (hb : c.code = cc) (hl : l.stackTraces = false) {own cls text : String} {names : List String} {ik is ic mc ms sa : Nat} {A : Nat → Prop}
    (hown : s.vm.findClass own = some m.cls) (hcls : Bundle.fit cls = true) (hnames : ∀ n ∈ names, Bundle.fit n = true)
    (hk : (Cond.classLink own ik cls).before args s = true) (hini : (Cond.initialized cls).before args s = true) (hstr : vk_R own is text sa s) (hat : ∀ w ∈ vx_atS own ic cls names, w.before args s = true)
    (hgood : ∀ w ∈ Cond.classLink own ik cls :: Cond.initialized cls :: vx_atS own ic cls names, vx_ot w = true)
    (hU : vx_Zq Bundle.tN "UNASSIGNED_STACK" Bundle.steD A s s.heap) (hN : vx_Zq Bundle.tN "SUPPRESSED_SENTINEL" Bundle.listD A s s.heap) (hS : va_S A s.heap H locs) (hsize : ls.size = c.maxLocals)
    (d0 : decode cc pc = .ok (.new ik, 3)) (d3 : decode cc (pc + 3) = .ok (.dup, 1)) (d4 : decode cc (pc + 4) = .ok (.ldc_w is, 3)) (d7 : decode cc (pc + 7) = .ok (.invokespecial ic, 3)) (d10 : decode cc (pc + 10) = .ok (.athrow, 1))
    (hout : ∀ x ∈ c.exceptionTable.toList, covers x (pc + 10) = false)
    (hRframes : names.length + 3 < R.frames) (hRlocals : (rest.map fun v => v.category).sum + (13 * (names.length + 1) + 43) ≤ R.locals) (hRcells : cells + 1 ≤ R.cells) (hRslots : slots + 6 ≤ R.slots) (hlocks : meth.locks = false)
    (hx : ∀ t : State, s.vm.Alike t.vm → H.size ≤ t.heap.size → (∀ q : Nat, q < H.size → t.heap[q]? = H[q]?) → XC cls s t)
    (hf : ∀ z ∈ locs, free z.base) (hc : cells + 1 ≤ mc) (hs : slots + 6 ≤ ms) :
    W p l e R s m args below meth c H locs cells slots (vx_MQ below Qc XC args s mc ms free) (F0 m pc ls rest) := by
  intro T hT X
  have htr : e.platform.stackTraces = false := (show e.platform.stackTraces = l.stackTraces by rw [X.admits.platform]).trans hl
  have Y := vx_rebase X (R' := { frames := R.frames, locals := R.locals, cells := 1, slots := 6 }) (Nat.le_refl _) (Nat.le_refl _) hRcells hRslots
  obtain ⟨s', hA⟩ : ∃ z, z = (T.setVm s.vm).setFrames (.invoking m args :: below) := ⟨_, rfl⟩
  rw [← hA] at Y
  have hvm : s'.vm = s.vm := by rw [hA]; rfl
  have hhp : s'.heap = H := by rw [hA]; exact hT
  have hW0 : s.WarmedH s'.vm := by rw [hvm]; exact State.WarmedH.refl s
  have hat' : ∀ w ∈ vx_atS own ic cls names, w.before args s' = true := fun w hw => vx_ot_at hW0 hvm.symm (hgood w (List.mem_cons_of_mem _ (List.mem_cons_of_mem _ hw))) (hat w hw)
  have hk' : (Cond.classLink own ik cls).before args s' = true := vx_ot_at hW0 hvm.symm (hgood _ List.mem_cons_self) hk
  have hini' : (Cond.initialized cls).before args s' = true := vx_ot_at hW0 hvm.symm (hgood _ (List.mem_cons_of_mem _ List.mem_cons_self)) hini
  have hU' : vx_Zq Bundle.tN "UNASSIGNED_STACK" Bundle.steD A s' s'.heap := by rw [hhp]; exact vx_Zq.moved hW0.alike (hU.kept hS.2.1)
  have hN' : vx_Zq Bundle.tN "SUPPRESSED_SENTINEL" Bundle.listD A s' s'.heap := by rw [hhp]; exact vx_Zq.moved hW0.alike (hN.kept hS.2.1)
  have h : ∀ w ∈ Bundle.ownAtoms own ic cls names, w.before args s' = true := vx_own hat' (vx_isRefq hU'.1) (vx_isRefq hN'.1) hU'.2.word hN'.2.word
  have hown' : s'.vm.findClass own = some m.cls := by rw [hvm]; exact hown
  have hins : (Cond.instantiable cls 6).before args s' = true := h _ (by simp [Bundle.ownAtoms])
  obtain ⟨vm₁, cX, kX, hfX, hkX, -, -, X₁, st1⟩ := Y.newCold hexec (own := own) (C := cls) (index := ik) (n := 6) hown' hk' hins hini'
    (g := F0 m pc ls rest) rfl (by rw [hb]; exact d0) (Nat.le_refl _) (Nat.le_refl _)
  generalize hT1 : (T.setVm vm₁).pushCell { cls := cX, slots := kX.instanceTypes.map defaultValue, vm := .none } = T1 at X₁ st1
  have hcat : (Value.ref T.heap.size).category = 1 := rfl
  have hcellA : T1.heap[T.heap.size]? = some (freshCell cX kX) := by rw [← hT1]; exact State.heap_pushCell_size _ _
  have d3' : decode c.code (pc + 3) = .ok (.dup, 1) := by rw [hb]; exact d3
  have d4' : decode c.code (pc + 4) = .ok (.ldc_w is, 3) := by rw [hb]; exact d4
  have hstr' : vk_R own is text sa s' := vk_R.warm hW0 hstr
  obtain ⟨U, hsteps, hrun, hend, hW, hsame, ce, hce, hO⟩ := X₁.ctorThrowS hexec htr (own := own) (cls := cls) (names := names) (ic := ic) hown' hcls hnames h (fun x hx => nomatch hx) hfX hkX hcellA (by rw [hhp, hT]; exact Nat.le_refl _) (msg := .ref sa) rfl
    (g := { method := m, pc := pc + 7, locals := ls, stack := .ref sa :: .ref T.heap.size :: .ref T.heap.size :: rest, locked := none }) rfl hsize rfl rfl (rest := rest) rfl
    (by rw [hb]; exact d7) (by rw [hb]; exact d10) hout hRframes (by simp only [List.map_cons, List.sum_cons, hcat]; omega) hlocks
  obtain ⟨f1, f2⟩ := vx_frame hsame
  rw [hhp] at f1 f2
  have hWs : s.WarmedH U.vm := State.WarmedH.trans hW0 hW
  have hcl : s.vm.findClass cls = some ce.cls := by
    have h9 := hO.cls
    rw [hvm] at h9
    exact h9
  have hall : s.sameButNew ({ U with vm := s.vm } : State) locs mc ms := by
    subst hA
    obtain ⟨e1, e2⟩ := hsame
    rw [State.setFrames_setFrames] at e1
    have h2 : (T.setVm s.vm).sameButNew ({ U with vm := s.vm } : State) [] (0 + 1) (0 + 6) := ⟨e1, e2⟩
    have h3 := X.same.trans h2
    rw [List.append_nil] at h3
    exact h3.mono hc hs
  refine ⟨U, ?_, .threw T.heap.size, hrun, hend, Or.inr ⟨T.heap.size, rfl, cls, ce, locs, hx U hWs.alike f1 (fun q hq => f2 q hq (fun z hz => nomatch hz)), hce, hO.vm, hcl, hWs, hall, hf⟩⟩
  refine st1 _ ?_
  show Steps p.tables e below (T1.setTop { method := m, pc := pc + 3, locals := ls, stack := .ref T.heap.size :: rest, locked := none }) _
  jvm_step X₁.here [X₁.here.top, hexec, d3', Value.category]
  exact X₁.ldcStringW hexec (own := own) (text := text) (index := is) (a := sa) hown' hstr'.1 hstr'.2
    (g := { method := m, pc := pc + 4, locals := ls, stack := .ref T.heap.size :: .ref T.heap.size :: rest, locked := none }) rfl d4' _ hsteps
end Ends
section Bodies
variable {l : Launch}
theorem vx_ofW {y : MethodName} {ws ws' : List Cond} {rm : Room} {Pc : Array Value → State → Prop} {Qc : Array Value → State → Outcome → State → Prop} {XC : String → State → State → Prop} {mc ms : Nat} {free : Addr → Prop} {cc : ByteArray} {maxL : Nat} {ret : Option FieldType}
    (hy : plainName y.cls = true) (hw : ws = Cond.code y cc maxL ret :: ws')
    (body : ∀ p e s m args below meth c s₁, BodyLoose p l y (headSpec ws rm) cc maxL ret e s m args below meth c s₁ → c.maxLocals = maxL → (∀ x ∈ c.exceptionTable.toList, False) → Pc args s →
      W p l e (headSpec ws rm).room s m args below meth c s.heap [] 0 0 (vx_MQ below Qc XC args s mc ms free) (entryFrame m args maxL)) : vx_Met l y ws rm Pc Qc XC mc ms free := by
  refine MetFree.of_bodyS (code := cc) (maxLocals := maxL) (ret := ret) hy ?_ ?_
  · intro args s m h hn
    obtain ⟨meth, c, h1, h2, h3, h4, h5, h6, -, -⟩ := Cond.code_spec hn (atoms_spec (ws := ws) h _ (by rw [hw]; exact List.mem_cons_self))
    exact ⟨meth, c, h1, h2, h3, h4, h5, h6⟩
  · intro p e s m args below meth c s₁ B hml hP _
    have hh0 : s₁.heap = s.heap := by rw [B.state]; rfl
    have ht : ∀ x ∈ c.exceptionTable.toList, False := by
      obtain ⟨meth9, c9, h1, h2, -, -, -, -, h7, -⟩ := Cond.code_spec B.named (atoms_spec (ws := ws) B.pre _ (by rw [hw]; exact List.mem_cons_self))
      cases Option.some.inj (h1.symm.trans B.method)
      cases Option.some.inj (h2.symm.trans (Stand.of_body B).code)
      intro x hx
      rw [Array.isEmpty_iff.mp h7] at hx
      cases hx
    obtain ⟨t, a1, o, b1, b2, b3⟩ := body p e s m args below meth c s₁ B hml ht hP s₁ hh0 (Stand.of_body B)
    exact ⟨t, o, a1, b1, b2, b3⟩
/-- the table of a body with handlers -/
theorem vx_table {p : Program} {x y : MethodName} {S : Spec} {cc bytes : ByteArray} {maxL maxL' : Nat} {ret ret' : Option FieldType} {e : Env} {s s₁ : State} {m : MethodId} {args : Array Value} {below : List Frame} {meth : Method} {c : Code} {hh : List (Nat × Nat × Nat × Nat)}
    (B : BodyLoose p l y S cc maxL ret e s m args below meth c s₁) (h : (Cond.codeWith y bytes maxL' ret' hh).before args s = true) : c.exceptionTable.toList = tableOf hh := by
  obtain ⟨m9, meth9, c9, hn9, h1, h2, -, -, h6, -⟩ := Cond.codeWith_spec h
  cases Option.some.inj (hn9.symm.trans B.named)
  cases Option.some.inj (h1.symm.trans B.method)
  cases Option.some.inj (h2.symm.trans (Stand.of_body B).code)
  rw [← h6, table_eq]
end Bodies
end VXA
/-! ===== END ===== -/
/-! ===== BEGIN a static call of a method with an exception table ===== -/
section VXS
variable {p : Program} {l : Launch} {e : Env} {R : Room} {s : State} {m : MethodId} {args : Array Value} {below : List Frame} {meth : Method} {c : Code} {T : State} {H : Heap} {locs : List Loc} {cells slots : Nat}
abbrev vx_CSW (R : Room) (s : State) (args : Array Value) (own : String) (index : Nat) (y : MethodName) (bytes : ByteArray) (maxL : Nat) (ret : Option FieldType) (hh : List (Nat × Nat × Nat × Nat)) (ws : List Cond) (rm : Room) (mc ms n : Nat) : Prop :=
  (rm.cells = mc ∧ rm.slots = ms ∧ rm.frames + 1 ≤ R.frames ∧ 8 + (maxL + 11) + rm.locals ≤ R.locals ∧ (∀ w ∈ ws, ∀ (a' : Array Value) (U : State), s.WarmedH U.vm → w.before a' U = true) ∧ Cond.codeWith y bytes maxL ret hh ∈ ws) ∧
  (Cond.codeWith y bytes maxL ret hh).before args s = true ∧ (Cond.initialized y.cls).before args s = true ∧ (y.cls ≠ "java/lang/invoke/MethodHandle" ∧ y.cls ≠ "java/lang/invoke/VarHandle") ∧
  (∀ sig, parseMethodDescriptor y.desc = some sig → n = sig.parameters.length) ∧ (Cond.methodLink own index y).before args s = true ∧ (Cond.static y).before args s = true
theorem vx_cwSW {own : String} {index maxL mc ms : Nat} {y : MethodName} {bytes : ByteArray} {ret : Option FieldType} {hh : List (Nat × Nat × Nat × Nat)} {Ts ws ws' : List Cond} {rm : Room} (n : Nat) (ht : ∀ w ∈ Ts, w.before args s = true) (hT : GoodIn Ts (va_wsS own index y ws)) (hw : ws = Cond.codeWith y bytes maxL ret hh :: ws') (hrc : rm.cells = mc) (hrs : rm.slots = ms)
    (hd : y.cls ≠ "java/lang/invoke/MethodHandle" ∧ y.cls ≠ "java/lang/invoke/VarHandle" ∧ (parseMethodDescriptor y.desc).map (fun d => d.parameters.length) = some n) (hR : rm.frames + 1 ≤ R.frames ∧ 8 + (maxL + 11) + rm.locals ≤ R.locals) :
    vx_CSW R s args own index y bytes maxL ret hh ws rm mc ms n := by
  have ok : ∀ w ∈ va_wsS own index y ws, w.before args s = true := fun w h => ht w (hT w h).1
  have hG : GoodIn Ts ws := fun w h => hT w (by unfold va_wsS; exact List.mem_append_right _ h)
  have hc : Cond.codeWith y bytes maxL ret hh ∈ ws := by rw [hw]; exact List.mem_cons_self
  refine ⟨⟨hrc, hrs, hR.1, hR.2, pay_in ht hG, hc⟩, ht _ (hG _ hc).1, ok _ (by simp [va_wsS]), ⟨hd.1, hd.2.1⟩, fun sig h => ?_, ok _ (by simp [va_wsS]), ok _ (by simp [va_wsS])⟩
  have h2 := hd.2.2
  rw [h] at h2
  exact (Option.some.inj h2).symm
theorem vx_callSW (X : Stand p l e R s m args below meth c T locs cells slots) (hexec : p.tables.exec = Jvm.exec) {own : String} {index : Nat} {y : MethodName} {bytes : ByteArray} {maxL : Nat} {ret : Option FieldType} {hh : List (Nat × Nat × Nat × Nat)}
    (hown : s.vm.findClass own = some m.cls) (hlink : (Cond.methodLink own index y).before args s = true) (hstat : (Cond.static y).before args s = true) (hinit : (Cond.initialized y.cls).before args s = true)
    (hcode : (Cond.codeWith y bytes maxL ret hh).before args s = true) (hy : y.cls ≠ "java/lang/invoke/MethodHandle" ∧ y.cls ≠ "java/lang/invoke/VarHandle")
    {W9 : Nat} {Pre : Pt → Array Value → Prop} {Post : Pt → Array Value → Option Value → Pt → Prop} (hK : Back l R p e below s args y 3 W9 Pre Post)
    {g : JFrame} (hg : g.method = m) (hsize : g.locals.size = c.maxLocals) {argsL rest : List Value} (hlen : ∀ sig, parseMethodDescriptor y.desc = some sig → argsL.length = sig.parameters.length)
    (hstack : g.stack = argsL.reverse ++ rest) (hW : 2 * g.monitorRoom + (rest.map fun v => v.category).sum ≤ W9) (hdg : decode c.code g.pc = .ok (.invokestatic index, 3))
    (hpre : ∀ vm₁, s.WarmedH vm₁ → Pre ⟨T.setVm vm₁, locs, cells, slots⟩ argsL.toArray) :
    ∃ (v : Option Value) (vm₁ : Vm) (B : Pt), s.WarmedH vm₁ ∧ Stand p l e R s m args below meth c B.U B.locs B.cells B.slots ∧ Post ⟨T.setVm vm₁, locs, cells, slots⟩ argsL.toArray v B ∧
      ∀ target, Steps p.tables e below (B.U.setTop { g with pc := g.pc + 3, stack := v.toList ++ rest }) target → Steps p.tables e below (T.setTop g) target := by
  obtain ⟨mk, methM, cM, hnamed, hmethM, -, -, -, -, -, -, hsigM⟩ := Cond.codeWith_spec hcode
  have hstatic : methM.isStatic = true := Cond.static_spec hnamed hmethM hstat
  obtain ⟨kP, hkP, -⟩ := className_of_methodNamed hnamed
  have hinitP : kP.init = .initialized := Cond.initialized_spec (findClass_of_methodNamed hnamed) hkP hinit
  obtain ⟨vm₁, X₁, hstep₁⟩ := X.invokestatic hexec hown hlink hnamed hmethM hstatic hkP hinitP hy (g := g) hg (argsL := argsL) (rest := rest) (hlen _ hsigM) hstack hdg
  obtain ⟨v, B, X', hpost, hsteps⟩ := hK m meth c ⟨T.setVm vm₁, locs, cells, slots⟩ { g with stack := rest } (.invokestatic index) mk argsL.toArray X₁ hg hsize hdg hW (X₁.named hnamed) (hpre vm₁ X₁.warmed)
  exact ⟨v, vm₁, B, X₁.warmed, X', hpost, fun target h => hstep₁ _ fun acts => by rw [doInvoke_state]; exact hsteps.trans h⟩
theorem vx_runSW {y : MethodName} {bytes cc : ByteArray} {maxL nL mc ms n index : Nat} {ret : Option FieldType} {hh : List (Nat × Nat × Nat × Nat)} {ws : List Cond} {rm : Room} {Pc : Array Value → State → Prop} {Qc : Array Value → State → Outcome → State → Prop} {free : Addr → Prop} {Ts : List Cond} {own : String} {As rest : List Value} {g : JFrame}
    (S : CallFix p m c cc nL s args Ts own) (hM : Met l y ws rm Pc Qc mc ms free) (cw : vx_CSW R s args own index y bytes maxL ret hh ws rm mc ms n) (hp : PreS s H Pc As)
    (hg : g.method = m) (hn : As.length = n) (hsize : g.locals.size = nL) (hstack : g.stack = As.reverse ++ rest) (hW : 2 * g.monitorRoom + (rest.map fun v => v.category).sum ≤ 8) (hdg : decode cc g.pc = .ok (.invokestatic index, 3)) (hf : cells + mc ≤ R.cells ∧ slots + ms ≤ R.slots) :
    va_Run p l e R s m args below meth c H locs cells slots mc ms g rest (Qc As.toArray) (free) := by
  obtain ⟨⟨hrc, hrs, hfr, hlo, hws, hcw⟩, hcode, hini, hy, hlen, hl, hstt⟩ := cw
  have hK : Back l R p e below s args y 3 8 (PreOf R mc ms Pc) (PostOf Qc mc ms free) := va_backW (hh := hh) (bytes := bytes) (maxL := maxL) (ret := ret) hM hp.1 hrc hrs hfr hlo hws hcw (fun a' U hW => word_at hW (Or.inl (by first | rfl | simp [Cond.onTables, Cond.keeps, Cond.steady])) hini)
  obtain ⟨hx, hb, hml, ho, -⟩ := S
  intro T hT X
  obtain ⟨v, vm₁, ⟨U', l2, c2, s2⟩, hW₁, X', ⟨g', mk, t, L, e1, e2, hq, h1, hL, h2, h3⟩, st⟩ := vx_callSW X hx (hh := hh) (bytes := bytes) (maxL := maxL) (ret := ret) ho hl hstt hini hcode hy hK hg (hsize.trans hml.symm) (argsL := As) (rest := rest) (fun sig h => hn.trans (hlen sig h)) hstack hW (by rw [hb]; exact hdg)
    (fun vm₁ hW₁ => ⟨hf.1, hf.2, hp.2 (T.setVm vm₁) hT hW₁⟩)
  dsimp only [Pt.U, Pt.locs, Pt.cells, Pt.slots] at X' e1 e2 h1 h2 h3 st
  subst h1; subst h2; subst h3
  exact ⟨v, (T.setVm vm₁).calling g' mk As.toArray, t, U', L, hT, X', hL, e1, e2, hq, st⟩
/-- not caught here, past rows that name other classes: it goes on to the caller -/
theorem vx_outP {p : Program} {l : Launch} {e : Env} {R : Room} {s : State} {m : MethodId} {args : Array Value} {below : List Frame} {meth : Method} {c : Code} {H : Heap} {locs : List Loc} {cells slots : Nat} {free : Addr → Prop} {ls : Array Slot} {rest : List Value} {Qc : Array Value → State → Outcome → State → Prop} {XC : String → State → State → Prop}
    {pc : Nat} {own E : String} {ce : Cell} {q : Addr} {mc ms : Nat} (hown : s.vm.findClass own = some m.cls) (hlocks : meth.locks = false)
    (hpass : ∀ z ∈ c.exceptionTable.toList, covers z pc = false ∨ (z.catchType ≠ 0 ∧ ∃ nm : String, (Cond.classLink own z.catchType nm).before args s = true ∧ va_Nc E nm s)) (hcell : H[q]? = some ce) (hv : ce.vm = .none) (hcl : s.vm.findClass E = some ce.cls)
    (hx : ∀ t : State, t.heap = H → s.vm.Alike t.vm → XC E s t) (hf : ∀ z ∈ locs, free z.base) (hc : cells ≤ mc) (hs : slots ≤ ms) :
    vx_W p l e R s m args below meth c H locs cells slots (vx_MQ below Qc XC args s mc ms free) (F0 m pc ls rest) q := by
  intro T hT X
  have hpl : e.platform.magicAccessors = ({} : Platform).magicAccessors := by rw [X.admits.platform]
  obtain ⟨vm', hW', X', st⟩ := X.outThrough hlocks q (g := F0 m pc ls rest) rfl rfl rfl (cell := ce) (by rw [hT]; exact hcell) (by rw [hv]; rfl)
    (by obtain ⟨k9, h9, -⟩ := Vm.findClass_spec hcl; exact ⟨k9, h9⟩) (fun z hz => by
      rcases hpass z hz with h | ⟨hz0, nm, hl1, hn1⟩
      · exact Or.inl h
      · obtain ⟨c6, hc6, hcl6⟩ := Cond.classLink_spec hown hl1 e.platform hpl
        obtain ⟨a8, b8, h1, h2, h3⟩ := hn1
        cases Option.some.inj (h1.symm.trans hcl)
        cases Option.some.inj (h2.symm.trans hc6)
        exact Or.inr ⟨hz0, _, hcl6, h3⟩)
  obtain ⟨g₀, hfr⟩ := X'.frames_eq
  have hcell9 : ((T.setVm vm').setFrames (.throwing q :: below)).heap[q]? = some ce := by
    show T.heap[q]? = some ce
    rw [hT]; exact hcell
  have hend : Ended ((T.setVm vm').setFrames (.throwing q :: below)) below (.threw q) := State.frames_setFrames _ (State.cur_lt_of_frames hfr)
  refine ⟨(T.setVm vm').setFrames (.throwing q :: below), ?_, .threw q, X'.here.running, hend, Or.inr ⟨q, rfl, E, ce, locs, hx _ hT (X'.ends _).1.alike, hcell9, hv, hcl, (X'.ends _).1, (X'.ends _).2.mono hc hs, hf⟩⟩
  rw [X.pushThrowing_eq]
  exact st
/-- a thing of a world lies in the heap -/
theorem vx_lt {D : va_G} {cl : List vw_C} {ws : va_W} {H1 : Heap} (h : va_P D cl ws H1) {k : Nat} {q : Nat × va_E} (hk : ws[k]? = some q) : q.1 < H1.size := (h k q hk).lt
end VXS
/-! ===== END ===== -/
/-! ===== BEGIN methods with a table of their own: called by a name, returning or throwing ===== -/
section VXH
/-! vx_backW, vx_callVX, vx_callSX, vx_callVW, vx_runVW, vx_runVX, vx_runSX, vx_ofWH follow the same proofs as their sisters above (Free/Laws.lean, Shelf42/LK1.lean); vx_outP calls Shelf42/NT130.lean (outThrough). -/
section
variable {l : Launch} {R : Room} {p : Program} {e : Env} {below : List Frame} {s : State} {sargs : Array Value} {y : MethodName} {len W9 : Nat}
theorem vx_backW {ws : List Cond} {rm : Room} {Pc : Array Value → State → Prop} {Qc : Array Value → State → Outcome → State → Prop} {XC : String → State → State → Prop} {mc ms : Nat} {free : Addr → Prop} {bytes : ByteArray} {maxL : Nat} {ret : Option FieldType} {hh : List (Nat × Nat × Nat × Nat)}
    (hM : vx_Met l y ws rm Pc Qc XC mc ms free) (hblind : FrameBlind Pc) (hrc : rm.cells = mc) (hrs : rm.slots = ms)
    (hframes : rm.frames + 1 ≤ R.frames) (hlocals : W9 + (maxL + 11) + rm.locals ≤ R.locals)
    (hws : ∀ w ∈ ws, ∀ a' U, s.WarmedH U.vm → w.before a' U = true) (hcode : Cond.codeWith y bytes maxL ret hh ∈ ws) (hinit : ∀ a' U, s.WarmedH U.vm → (Cond.initialized y.cls).before a' U = true) :
    vx_Back l R p e below s sargs y len W9 (PreOf R mc ms Pc) (PostOf Qc mc ms free) (vx_Post XC mc ms free) := by
  intro m meth c A g ig mk a X hg hsize hdg hW hn hp
  have h1 : (headSpec ws rm).pre.before a A.U = true := atoms_intro fun w hw => hws w hw _ _ X.warmed
  have h2 : (Cond.codeWith y bytes maxL ret hh).before a A.U = true := hws _ hcode _ _ X.warmed
  have h3 : (Cond.initialized y.cls).before a A.U = true := hinit _ _ X.warmed
  have h4 : A.cells + (headSpec ws rm).room.cells ≤ R.cells := by rw [show (headSpec ws rm).room.cells = mc from hrc]; exact hp.1
  have h5 : A.slots + (headSpec ws rm).room.slots ≤ R.slots := by rw [show (headSpec ws rm).room.slots = ms from hrs]; exact hp.2.1
  have hPc : Pc a (A.U.calling g mk a) := hblind _ _ _ _ hp.2.2
  obtain ⟨U, Ls, c0, s0⟩ := A
  dsimp only [Pt.U, Pt.locs, Pt.cells, Pt.slots] at h1 h2 h3 h4 h5 X hn hPc ⊢
  obtain ⟨m9, methY, cY, hn9, hmY, hcY, -, hlY, -⟩ := Cond.codeWith_spec h2
  cases Option.some.inj (hn9.symm.trans hn)
  obtain ⟨kY, hkY, -⟩ := className_of_methodNamed hn
  have hinitY : kY.init = .initialized := Cond.initialized_spec (findClass_of_methodNamed hn) hkY h3
  have h : At U g.method c below := by rw [hg]; exact X.here
  have hlocals9 : W9 + (maxL + 11) + (headSpec ws rm).room.locals ≤ R.locals := hlocals
  have happ : (headSpec ws rm).appliesLoose y e.platform (U.calling g mk a) = true :=
    Spec.appliesLoose_calling (g := g) h hdg hn hkY hinitY
      (X.room_calling (g := g) (R' := (headSpec ws rm).room) hsize hmY hcY hframes (by rw [hlY]; omega) h4 h5) h1
  obtain ⟨mid, hmid⟩ := h.above
  have hfr : (U.setTop g).frames = (.java g :: mid) ++ below := by rw [State.frames_setTop' g h.top, hmid]; rfl
  obtain ⟨o, s₂, hsteps, -, hend, hq⟩ := Steps.callFree hM p X.admits X.cas X.clock (acts := []) hfr happ hPc trivial
  have hq' : vx_Q Qc XC mc ms free a (U.calling g mk a) o s₂ := hq
  rw [State.frames_setTop' g h.top] at hend
  obtain ⟨g₀, hg0⟩ := Option.isSome_iff_exists.mp h.top
  obtain ⟨r, hr⟩ := State.topJava?_eq_some.mp hg0
  have hr' : (({ U with heap := s₂.heap, slotsUsed := s₂.slotsUsed } : State).setVm s₂.vm).frames = .java g₀ :: r := hr
  rcases hq' with ⟨hqc, L, hfe, hL⟩ | ⟨q, rfl, E, ce, L, hx, hce, hcv, hcl, hW₂, hsm, hL⟩
  · obtain ⟨⟨v, rfl⟩, hW₂, e2, q2, q3, q4, q5, q6⟩ := id hfe
    have e3 : s₂ = ({ (U.calling g mk a).setFrames s₂.frames with heap := s₂.heap, slotsUsed := s₂.slotsUsed } : State).setVm s₂.vm := by
      have : s₂ = ({ s₂ with vm := (U.calling g mk a).vm } : State).setVm s₂.vm := rfl
      rw [e2] at this
      exact this
    obtain ⟨c₂, i₂, len₂, hc₂, hd₂, hf₂⟩ := hend
    have hW' : U.WarmedH s₂.vm := hW₂
    have hcc : c₂ = c := by
      have h1 : s₂.code? g.method = U.code? g.method := by
        rw [State.code?_eq, State.code?_eq, hW'.alike.method?]
      exact Option.some.inj (hc₂.symm.trans (h1.trans h.code))
    subst hcc
    have hlen : len₂ = len := by rw [hdg] at hd₂; cases hd₂; rfl
    subst hlen
    have hs₂ : s₂ = (({ U with heap := s₂.heap, slotsUsed := s₂.slotsUsed } : State).setVm s₂.vm).setTop { g with pc := g.pc + len₂, stack := v.toList ++ g.stack } := by
      refine e3.trans ?_
      rw [hf₂, State.calling_eq h.top, State.setFrames_setFrames, State.setTop_of_frames _ hr', hr]
      rfl
    have hsame : U.sameButNew ({ U with heap := s₂.heap, slotsUsed := s₂.slotsUsed } : State) L mc ms := by
      refine ⟨?_, q2, q3, q4, q5, q6⟩
      obtain ⟨t, ht, -⟩ := State.frames_cons hr
      show ({ U with heap := s₂.heap, slotsUsed := s₂.slotsUsed } : State) = { U.setFrames U.frames with heap := s₂.heap, slotsUsed := s₂.slotsUsed }
      rw [State.setFrames_self ht]
    subst hg
    refine Or.inl ⟨v, ⟨(({ U with heap := s₂.heap, slotsUsed := s₂.slotsUsed } : State).setVm s₂.vm), Ls ++ L, c0 + mc, s0 + ms⟩,
      ⟨X.admits, X.cas, X.clock, X.frames, X.room, X.hears, X.method, X.code, (X.here.setHeapUsed s₂.heap s₂.slotsUsed).setVm hW'.alike, X.tail, State.WarmedH.trans X.warmed hW', X.limits, X.bytes, X.same.trans (hsame.setVm s.vm)⟩,
      ⟨g, mk, s₂, L, rfl, rfl, hqc, rfl, hL, rfl, rfl⟩, ?_⟩
    show Steps p.tables e below _ ((({ U with heap := s₂.heap, slotsUsed := s₂.slotsUsed } : State).setVm s₂.vm).setTop { g with pc := g.pc + len₂, stack := v.toList ++ g.stack })
    rw [← hs₂]
    exact hsteps
  · obtain ⟨e2, q2, q3, q4, q5, q6⟩ := id hsm
    have e3 : s₂ = ({ (U.calling g mk a).setFrames s₂.frames with heap := s₂.heap, slotsUsed := s₂.slotsUsed } : State).setVm s₂.vm := by
      have : s₂ = ({ s₂ with vm := (U.calling g mk a).vm } : State).setVm s₂.vm := rfl
      rw [e2] at this
      exact this
    have hf₂ : s₂.frames = .throwing q :: .java g :: U.frames.tail := hend
    have hW' : U.WarmedH s₂.vm := hW₂
    have hs₂ : s₂ = ((({ U with heap := s₂.heap, slotsUsed := s₂.slotsUsed } : State).setVm s₂.vm).setTop g).pushFrame (.throwing q) := by
      refine e3.trans ?_
      rw [hf₂, State.calling_eq h.top, State.setFrames_setFrames, State.pushFrame, State.frames_setTop _ hr', State.setTop_of_frames _ hr', State.setFrames_setFrames, hr]
      rfl
    have hsame : U.sameButNew ({ U with heap := s₂.heap, slotsUsed := s₂.slotsUsed } : State) L mc ms := by
      refine ⟨?_, q2, q3, q4, q5, q6⟩
      obtain ⟨t, ht, -⟩ := State.frames_cons hr
      show ({ U with heap := s₂.heap, slotsUsed := s₂.slotsUsed } : State) = { U.setFrames U.frames with heap := s₂.heap, slotsUsed := s₂.slotsUsed }
      rw [State.setFrames_self ht]
    subst hg
    refine Or.inr ⟨q, ⟨(({ U with heap := s₂.heap, slotsUsed := s₂.slotsUsed } : State).setVm s₂.vm), Ls ++ L, c0 + mc, s0 + ms⟩,
      ⟨X.admits, X.cas, X.clock, X.frames, X.room, X.hears, X.method, X.code, (X.here.setHeapUsed s₂.heap s₂.slotsUsed).setVm hW'.alike, X.tail, State.WarmedH.trans X.warmed hW', X.limits, X.bytes, X.same.trans (hsame.setVm s.vm)⟩,
      ⟨g, mk, s₂, L, E, ce, rfl, rfl, hx, hce, hcv, hcl, rfl, hL, rfl, rfl⟩, ?_⟩
    show Steps p.tables e below _ (((({ U with heap := s₂.heap, slotsUsed := s₂.slotsUsed } : State).setVm s₂.vm).setTop g).pushFrame (.throwing q))
    rw [← hs₂]
    exact hsteps
end
variable {p : Program} {l : Launch} {e : Env} {R : Room} {s : State} {m : MethodId} {args : Array Value} {below : List Frame} {meth : Method} {c : Code} {T : State} {H : Heap} {locs : List Loc} {cells slots : Nat}
theorem vx_callVX (X : Stand p l e R s m args below meth c T locs cells slots) (hexec : p.tables.exec = Jvm.exec) {own C : String} {index : Nat} {y : MethodName} {bytes : ByteArray} {maxL : Nat} {ret : Option FieldType} {hh : List (Nat × Nat × Nat × Nat)}
    (hown : s.vm.findClass own = some m.cls) (hlink : (Cond.methodLink own index y).before args s = true) (hinst : (Cond.instanceMethod y).before args s = true) (hsel : (Cond.selects C y y).before args s = true)
    (hcode : (Cond.codeWith y bytes maxL ret hh).before args s = true) (hy : y.cls ≠ "java/lang/invoke/MethodHandle" ∧ y.cls ≠ "java/lang/invoke/VarHandle")
    {W9 : Nat} {Pre : Pt → Array Value → Prop} {Post : Pt → Array Value → Option Value → Pt → Prop} {PostX : Pt → Array Value → Addr → Pt → Prop} (hK : vx_Back l R p e below s args y 3 W9 Pre Post PostX)
    {b : Addr} {cellB : Cell} (hcell : T.heap[b]? = some cellB) (hobj : cellB.vm.isStatics = false) (hcls : s.vm.findClass C = some cellB.cls)
    {g : JFrame} (hg : g.method = m) (hsize : g.locals.size = c.maxLocals) {argsL rest : List Value} (hlen : ∀ sig, parseMethodDescriptor y.desc = some sig → argsL.length = sig.parameters.length)
    (hstack : g.stack = argsL.reverse ++ .ref b :: rest) (hW : 2 * g.monitorRoom + (rest.map fun v => v.category).sum ≤ W9) (hdg : decode c.code g.pc = .ok (.invokevirtual index, 3))
    (hpre : ∀ vm₁, s.WarmedH vm₁ → Pre ⟨T.setVm vm₁, locs, cells, slots⟩ (Value.ref b :: argsL).toArray) :
    (∃ (v : Option Value) (vm₁ : Vm) (B : Pt), s.WarmedH vm₁ ∧ Stand p l e R s m args below meth c B.U B.locs B.cells B.slots ∧ Post ⟨T.setVm vm₁, locs, cells, slots⟩ (Value.ref b :: argsL).toArray v B ∧
      ∀ target, Steps p.tables e below (B.U.setTop { g with pc := g.pc + 3, stack := v.toList ++ rest }) target → Steps p.tables e below (T.setTop g) target) ∨
    (∃ (q : Addr) (vm₁ : Vm) (B : Pt), s.WarmedH vm₁ ∧ Stand p l e R s m args below meth c B.U B.locs B.cells B.slots ∧ PostX ⟨T.setVm vm₁, locs, cells, slots⟩ (Value.ref b :: argsL).toArray q B ∧
      Steps p.tables e below (T.setTop g) ((B.U.setTop { g with stack := rest }).pushFrame (.throwing q))) := by
  obtain ⟨mk, methM, hnamed, hmethM, hstM, habM⟩ := Cond.instanceMethod_spec hinst
  obtain ⟨m8, methM', cM, hn8, hmethM', -, -, -, -, -, -, hsigM⟩ := Cond.codeWith_spec hcode
  cases Option.some.inj (hn8.symm.trans hnamed)
  cases hmethM.symm.trans hmethM'
  obtain ⟨c2, r2, m2, q1, q2, q3, q4, kP, hkP, hkPi⟩ := Cond.selects_spec hsel
  cases hcls.symm.trans q1
  cases (State.methodFound?_of_named hnamed hy).symm.trans q2
  cases hnamed.symm.trans q3
  have hselP : selectMethod e.platform s.vm cellB.cls mk = .method mk := by rw [Launch.admits_selectMethod X.admits]; exact q4
  obtain ⟨vm₁, X₁, hstep₁⟩ := X.invokevirtual hexec hown hlink hnamed hmethM hstM hkP hkPi hy (a := b) (cell := cellB) hcell
    (fun z h => by rw [h] at hobj; cases hobj) hselP hmethM habM hkP hkPi (g := g) hg (argsL := argsL) (rest := rest) (hlen _ hsigM) hstack hdg
  rcases hK m meth c ⟨T.setVm vm₁, locs, cells, slots⟩ { g with stack := rest } (.invokevirtual index) mk (Value.ref b :: argsL).toArray X₁ hg hsize hdg hW (X₁.named hnamed) (hpre vm₁ X₁.warmed) with ⟨v, B, X', hpost, hsteps⟩ | ⟨q, B, X', hpost, hsteps⟩
  · exact Or.inl ⟨v, vm₁, B, X₁.warmed, X', hpost, fun target h => hstep₁ _ fun acts => by rw [doInvoke_state]; exact hsteps.trans h⟩
  · exact Or.inr ⟨q, vm₁, B, X₁.warmed, X', hpost, hstep₁ _ fun acts => by rw [doInvoke_state]; exact hsteps⟩
theorem vx_callSX (X : Stand p l e R s m args below meth c T locs cells slots) (hexec : p.tables.exec = Jvm.exec) {own : String} {index : Nat} {y : MethodName} {bytes : ByteArray} {maxL : Nat} {ret : Option FieldType} {hh : List (Nat × Nat × Nat × Nat)}
    (hown : s.vm.findClass own = some m.cls) (hlink : (Cond.methodLink own index y).before args s = true) (hstat : (Cond.static y).before args s = true) (hinit : (Cond.initialized y.cls).before args s = true)
    (hcode : (Cond.codeWith y bytes maxL ret hh).before args s = true) (hy : y.cls ≠ "java/lang/invoke/MethodHandle" ∧ y.cls ≠ "java/lang/invoke/VarHandle")
    {W9 : Nat} {Pre : Pt → Array Value → Prop} {Post : Pt → Array Value → Option Value → Pt → Prop} {PostX : Pt → Array Value → Addr → Pt → Prop} (hK : vx_Back l R p e below s args y 3 W9 Pre Post PostX)
    {g : JFrame} (hg : g.method = m) (hsize : g.locals.size = c.maxLocals) {argsL rest : List Value} (hlen : ∀ sig, parseMethodDescriptor y.desc = some sig → argsL.length = sig.parameters.length)
    (hstack : g.stack = argsL.reverse ++ rest) (hW : 2 * g.monitorRoom + (rest.map fun v => v.category).sum ≤ W9) (hdg : decode c.code g.pc = .ok (.invokestatic index, 3))
    (hpre : ∀ vm₁, s.WarmedH vm₁ → Pre ⟨T.setVm vm₁, locs, cells, slots⟩ argsL.toArray) :
    (∃ (v : Option Value) (vm₁ : Vm) (B : Pt), s.WarmedH vm₁ ∧ Stand p l e R s m args below meth c B.U B.locs B.cells B.slots ∧ Post ⟨T.setVm vm₁, locs, cells, slots⟩ argsL.toArray v B ∧
      ∀ target, Steps p.tables e below (B.U.setTop { g with pc := g.pc + 3, stack := v.toList ++ rest }) target → Steps p.tables e below (T.setTop g) target) ∨
    (∃ (q : Addr) (vm₁ : Vm) (B : Pt), s.WarmedH vm₁ ∧ Stand p l e R s m args below meth c B.U B.locs B.cells B.slots ∧ PostX ⟨T.setVm vm₁, locs, cells, slots⟩ argsL.toArray q B ∧
      Steps p.tables e below (T.setTop g) ((B.U.setTop { g with stack := rest }).pushFrame (.throwing q))) := by
  obtain ⟨mk, methM, cM, hnamed, hmethM, -, -, -, -, -, -, hsigM⟩ := Cond.codeWith_spec hcode
  have hstatic : methM.isStatic = true := Cond.static_spec hnamed hmethM hstat
  obtain ⟨kP, hkP, -⟩ := className_of_methodNamed hnamed
  have hinitP : kP.init = .initialized := Cond.initialized_spec (findClass_of_methodNamed hnamed) hkP hinit
  obtain ⟨vm₁, X₁, hstep₁⟩ := X.invokestatic hexec hown hlink hnamed hmethM hstatic hkP hinitP hy (g := g) hg (argsL := argsL) (rest := rest) (hlen _ hsigM) hstack hdg
  rcases hK m meth c ⟨T.setVm vm₁, locs, cells, slots⟩ { g with stack := rest } (.invokestatic index) mk argsL.toArray X₁ hg hsize hdg hW (X₁.named hnamed) (hpre vm₁ X₁.warmed) with ⟨v, B, X', hpost, hsteps⟩ | ⟨q, B, X', hpost, hsteps⟩
  · exact Or.inl ⟨v, vm₁, B, X₁.warmed, X', hpost, fun target h => hstep₁ _ fun acts => by rw [doInvoke_state]; exact hsteps.trans h⟩
  · exact Or.inr ⟨q, vm₁, B, X₁.warmed, X', hpost, hstep₁ _ fun acts => by rw [doInvoke_state]; exact hsteps⟩
theorem vx_callVW (X : Stand p l e R s m args below meth c T locs cells slots) (hexec : p.tables.exec = Jvm.exec) {own C : String} {index : Nat} {y : MethodName} {bytes : ByteArray} {maxL : Nat} {ret : Option FieldType} {hh : List (Nat × Nat × Nat × Nat)}
    (hown : s.vm.findClass own = some m.cls) (hlink : (Cond.methodLink own index y).before args s = true) (hinst : (Cond.instanceMethod y).before args s = true) (hsel : (Cond.selects C y y).before args s = true)
    (hcode : (Cond.codeWith y bytes maxL ret hh).before args s = true) (hy : y.cls ≠ "java/lang/invoke/MethodHandle" ∧ y.cls ≠ "java/lang/invoke/VarHandle")
    {W9 : Nat} {Pre : Pt → Array Value → Prop} {Post : Pt → Array Value → Option Value → Pt → Prop} (hK : Back l R p e below s args y 3 W9 Pre Post)
    {b : Addr} {cellB : Cell} (hcell : T.heap[b]? = some cellB) (hobj : cellB.vm.isStatics = false) (hcls : s.vm.findClass C = some cellB.cls)
    {g : JFrame} (hg : g.method = m) (hsize : g.locals.size = c.maxLocals) {argsL rest : List Value} (hlen : ∀ sig, parseMethodDescriptor y.desc = some sig → argsL.length = sig.parameters.length)
    (hstack : g.stack = argsL.reverse ++ .ref b :: rest) (hW : 2 * g.monitorRoom + (rest.map fun v => v.category).sum ≤ W9) (hdg : decode c.code g.pc = .ok (.invokevirtual index, 3))
    (hpre : ∀ vm₁, s.WarmedH vm₁ → Pre ⟨T.setVm vm₁, locs, cells, slots⟩ (Value.ref b :: argsL).toArray) :
    ∃ (v : Option Value) (vm₁ : Vm) (B : Pt), s.WarmedH vm₁ ∧ Stand p l e R s m args below meth c B.U B.locs B.cells B.slots ∧ Post ⟨T.setVm vm₁, locs, cells, slots⟩ (Value.ref b :: argsL).toArray v B ∧
      ∀ target, Steps p.tables e below (B.U.setTop { g with pc := g.pc + 3, stack := v.toList ++ rest }) target → Steps p.tables e below (T.setTop g) target := by
  obtain ⟨mk, methM, hnamed, hmethM, hstM, habM⟩ := Cond.instanceMethod_spec hinst
  obtain ⟨m8, methM', cM, hn8, hmethM', -, -, -, -, -, -, hsigM⟩ := Cond.codeWith_spec hcode
  cases Option.some.inj (hn8.symm.trans hnamed)
  cases hmethM.symm.trans hmethM'
  obtain ⟨c2, r2, m2, q1, q2, q3, q4, kP, hkP, hkPi⟩ := Cond.selects_spec hsel
  cases hcls.symm.trans q1
  cases (State.methodFound?_of_named hnamed hy).symm.trans q2
  cases hnamed.symm.trans q3
  have hselP : selectMethod e.platform s.vm cellB.cls mk = .method mk := by rw [Launch.admits_selectMethod X.admits]; exact q4
  obtain ⟨vm₁, X₁, hstep₁⟩ := X.invokevirtual hexec hown hlink hnamed hmethM hstM hkP hkPi hy (a := b) (cell := cellB) hcell
    (fun z h => by rw [h] at hobj; cases hobj) hselP hmethM habM hkP hkPi (g := g) hg (argsL := argsL) (rest := rest) (hlen _ hsigM) hstack hdg
  obtain ⟨v, B, X', hpost, hsteps⟩ := hK m meth c ⟨T.setVm vm₁, locs, cells, slots⟩ { g with stack := rest } (.invokevirtual index) mk (Value.ref b :: argsL).toArray X₁ hg hsize hdg hW (X₁.named hnamed) (hpre vm₁ X₁.warmed)
  exact ⟨v, vm₁, B, X₁.warmed, X', hpost, fun target h => hstep₁ _ fun acts => by rw [doInvoke_state]; exact hsteps.trans h⟩
abbrev vx_CVW (R : Room) (s : State) (args : Array Value) (own C : String) (index : Nat) (y : MethodName) (bytes : ByteArray) (maxL : Nat) (ret : Option FieldType) (hh : List (Nat × Nat × Nat × Nat)) (ws : List Cond) (rm : Room) (mc ms n : Nat) : Prop :=
  (rm.cells = mc ∧ rm.slots = ms ∧ rm.frames + 1 ≤ R.frames ∧ 8 + (maxL + 11) + rm.locals ≤ R.locals ∧ (∀ w ∈ ws, ∀ (a' : Array Value) (U : State), s.WarmedH U.vm → w.before a' U = true) ∧ Cond.codeWith y bytes maxL ret hh ∈ ws) ∧
  (Cond.codeWith y bytes maxL ret hh).before args s = true ∧ (Cond.initialized y.cls).before args s = true ∧ (y.cls ≠ "java/lang/invoke/MethodHandle" ∧ y.cls ≠ "java/lang/invoke/VarHandle") ∧
  (∀ sig, parseMethodDescriptor y.desc = some sig → n = sig.parameters.length) ∧ (Cond.methodLink own index y).before args s = true ∧ (Cond.instanceMethod y).before args s = true ∧ (Cond.selects C y y).before args s = true
theorem vx_cwVW {own C : String} {index maxL mc ms : Nat} {y : MethodName} {bytes : ByteArray} {ret : Option FieldType} {hh : List (Nat × Nat × Nat × Nat)} {Ts ws ws' : List Cond} {rm : Room} (n : Nat) (ht : ∀ w ∈ Ts, w.before args s = true) (hT : GoodIn Ts (wsV own index C y ws)) (hw : ws = Cond.codeWith y bytes maxL ret hh :: ws') (hrc : rm.cells = mc) (hrs : rm.slots = ms)
    (hd : y.cls = C ∧ y.cls ≠ "java/lang/invoke/MethodHandle" ∧ y.cls ≠ "java/lang/invoke/VarHandle" ∧ (parseMethodDescriptor y.desc).map (fun d => d.parameters.length) = some n) (hR : rm.frames + 1 ≤ R.frames ∧ 8 + (maxL + 11) + rm.locals ≤ R.locals) :
    vx_CVW R s args own C index y bytes maxL ret hh ws rm mc ms n := by
  obtain ⟨hC, hd⟩ := hd
  subst hC
  have ok : ∀ w ∈ wsV own index y.cls y ws, w.before args s = true := fun w h => ht w (hT w h).1
  have hG : GoodIn Ts ws := fun w h => hT w (by unfold wsV; exact List.mem_append_right _ h)
  have hc : Cond.codeWith y bytes maxL ret hh ∈ ws := by rw [hw]; exact List.mem_cons_self
  refine ⟨⟨hrc, hrs, hR.1, hR.2, pay_in ht hG, hc⟩, ht _ (hG _ hc).1, ok _ (by simp [wsV]), ⟨hd.1, hd.2.1⟩, fun sig h => ?_, ok _ (by simp [wsV]), ok _ (by simp [wsV]), ok _ (by simp [wsV])⟩
  have h2 := hd.2.2
  rw [h] at h2
  exact (Option.some.inj h2).symm
theorem vx_runVW {y : MethodName} {bytes cc : ByteArray} {maxL nL mc ms n index : Nat} {ret : Option FieldType} {hh : List (Nat × Nat × Nat × Nat)} {ws : List Cond} {rm : Room} {Pc : Array Value → State → Prop} {Qc : Array Value → State → Outcome → State → Prop} {free : Addr → Prop} {Ts : List Cond} {own C : String} {b : Addr} {As rest : List Value} {g : JFrame}
    (S : CallFix p m c cc nL s args Ts own) (hM : Met l y ws rm Pc Qc mc ms free) (cw : vx_CVW R s args own C index y bytes maxL ret hh ws rm mc ms n) (hp : PreV s H C b Pc As)
    (hg : g.method = m) (hn : As.length = n) (hsize : g.locals.size = nL) (hstack : g.stack = As.reverse ++ .ref b :: rest) (hW : 2 * g.monitorRoom + (rest.map fun v => v.category).sum ≤ 8) (hdg : decode cc g.pc = .ok (.invokevirtual index, 3)) (hf : cells + mc ≤ R.cells ∧ slots + ms ≤ R.slots) :
    va_Run p l e R s m args below meth c H locs cells slots mc ms g rest (Qc (Value.ref b :: As).toArray) free := by
  obtain ⟨⟨hrc, hrs, hfr, hlo, hws, hcw⟩, hcode, hini, hy, hlen, hl, hin, hse⟩ := cw
  have hK : Back l R p e below s args y 3 8 (PreOf R mc ms Pc) (PostOf Qc mc ms free) := va_backW (hh := hh) (bytes := bytes) (maxL := maxL) (ret := ret) hM hp.1 hrc hrs hfr hlo hws hcw (fun a' U hW => word_at hW (Or.inl (by first | rfl | simp [Cond.onTables, Cond.keeps, Cond.steady])) hini)
  obtain ⟨hx, hb, hml, ho, -⟩ := S
  obtain ⟨-, ⟨cellB, hcB, hoB, hclB⟩, hPc⟩ := hp
  intro T hT X
  obtain ⟨v, vm₁, ⟨U', l2, c2, s2⟩, hW₁, X', ⟨g', mk, t, L, e1, e2, hq, h1, hL, h2, h3⟩, st⟩ := vx_callVW X hx (C := C) (hh := hh) (bytes := bytes) (maxL := maxL) (ret := ret) ho hl hin hse hcode hy hK (by rw [hT]; exact hcB) hoB hclB hg (hsize.trans hml.symm) (argsL := As) (rest := rest) (fun sig h => hn.trans (hlen sig h)) hstack hW (by rw [hb]; exact hdg)
    (fun vm₁ hW₁ => ⟨hf.1, hf.2, hPc (T.setVm vm₁) hT hW₁⟩)
  dsimp only [Pt.U, Pt.locs, Pt.cells, Pt.slots] at X' e1 e2 h1 h2 h3 st
  subst h1; subst h2; subst h3
  exact ⟨v, (T.setVm vm₁).calling g' mk (Value.ref b :: As).toArray, t, U', L, hT, X', hL, e1, e2, hq, st⟩
section
variable {y : MethodName} {bytes cc : ByteArray} {maxL nL mc ms n index : Nat} {ret : Option FieldType} {ws : List Cond} {rm : Room} {Pc : Array Value → State → Prop} {Qc : Array Value → State → Outcome → State → Prop} {XC : String → State → State → Prop} {free : Addr → Prop} {Ts : List Cond} {own C : String} {b : Addr} {As rest : List Value} {g : JFrame}
theorem vx_runVX {hh : List (Nat × Nat × Nat × Nat)} (S : CallFix p m c cc nL s args Ts own) (hM : vx_Met l y ws rm Pc Qc XC mc ms free) (cw : vx_CVW R s args own C index y bytes maxL ret hh ws rm mc ms n) (hp : PreV s H C b Pc As)
    (hg : g.method = m) (hn : As.length = n) (hsize : g.locals.size = nL) (hstack : g.stack = As.reverse ++ .ref b :: rest) (hW : 2 * g.monitorRoom + (rest.map fun v => v.category).sum ≤ 8) (hdg : decode cc g.pc = .ok (.invokevirtual index, 3)) (hf : cells + mc ≤ R.cells ∧ slots + ms ≤ R.slots) :
    vx_Run p l e R s m args below meth c H locs cells slots mc ms g rest (Qc (Value.ref b :: As).toArray) XC free := by
  obtain ⟨⟨hrc, hrs, hfr, hlo, hws, hcw⟩, hcode, hini, hy, hlen, hl, hin, hse⟩ := cw
  have hK : vx_Back l R p e below s args y 3 8 (PreOf R mc ms Pc) (PostOf Qc mc ms free) (vx_Post XC mc ms free) := vx_backW (hh := hh) (bytes := bytes) (maxL := maxL) (ret := ret) hM hp.1 hrc hrs hfr hlo hws hcw (fun a' U hW => word_at hW (Or.inl (by first | rfl | simp [Cond.onTables, Cond.keeps, Cond.steady])) hini)
  obtain ⟨hx, hb, hml, ho, -⟩ := S
  obtain ⟨-, ⟨cellB, hcB, hoB, hclB⟩, hPc⟩ := hp
  intro T hT X
  rcases vx_callVX X hx (C := C) (hh := hh) (bytes := bytes) (maxL := maxL) (ret := ret) ho hl hin hse hcode hy hK (by rw [hT]; exact hcB) hoB hclB hg (hsize.trans hml.symm) (argsL := As) (rest := rest) (fun sig h => hn.trans (hlen sig h)) hstack hW (by rw [hb]; exact hdg)
    (fun vm₁ hW₁ => ⟨hf.1, hf.2, hPc (T.setVm vm₁) hT hW₁⟩) with ⟨v, vm₁, ⟨U', l2, c2, s2⟩, hW₁, X', ⟨g', mk, t, L, e1, e2, hq, h1, hL, h2, h3⟩, st⟩ | ⟨q, vm₁, ⟨U', l2, c2, s2⟩, hW₁, X', ⟨g', mk, t, L, E, ce, e1, e2, hq, hce, hcv, hcl, h1, hL, h2, h3⟩, st⟩
  · dsimp only [Pt.U, Pt.locs, Pt.cells, Pt.slots] at X' e1 e2 h1 h2 h3 st
    subst h1; subst h2; subst h3
    exact Or.inl ⟨v, (T.setVm vm₁).calling g' mk (Value.ref b :: As).toArray, t, U', L, hT, X', hL, e1, e2, hq, st⟩
  · dsimp only [Pt.U, Pt.locs, Pt.cells, Pt.slots] at X' e1 e2 h1 h2 h3 st hcl
    subst h1; subst h2; subst h3
    exact Or.inr ⟨q, (T.setVm vm₁).calling g' mk (Value.ref b :: As).toArray, t, U', L, E, ce, hT, X', hL, e1, e2, hq, hce, hcv, vx_cls hW₁ hcl, st⟩
theorem vx_runSX {hh : List (Nat × Nat × Nat × Nat)} (S : CallFix p m c cc nL s args Ts own) (hM : vx_Met l y ws rm Pc Qc XC mc ms free) (cw : vx_CSW R s args own index y bytes maxL ret hh ws rm mc ms n) (hp : PreS s H Pc As)
    (hg : g.method = m) (hn : As.length = n) (hsize : g.locals.size = nL) (hstack : g.stack = As.reverse ++ rest) (hW : 2 * g.monitorRoom + (rest.map fun v => v.category).sum ≤ 8) (hdg : decode cc g.pc = .ok (.invokestatic index, 3)) (hf : cells + mc ≤ R.cells ∧ slots + ms ≤ R.slots) :
    vx_Run p l e R s m args below meth c H locs cells slots mc ms g rest (Qc As.toArray) XC free := by
  obtain ⟨⟨hrc, hrs, hfr, hlo, hws, hcw⟩, hcode, hini, hy, hlen, hl, hstt⟩ := cw
  have hK : vx_Back l R p e below s args y 3 8 (PreOf R mc ms Pc) (PostOf Qc mc ms free) (vx_Post XC mc ms free) := vx_backW (hh := hh) (bytes := bytes) (maxL := maxL) (ret := ret) hM hp.1 hrc hrs hfr hlo hws hcw (fun a' U hW => word_at hW (Or.inl (by first | rfl | simp [Cond.onTables, Cond.keeps, Cond.steady])) hini)
  obtain ⟨hx, hb, hml, ho, -⟩ := S
  intro T hT X
  rcases vx_callSX X hx (hh := hh) (bytes := bytes) (maxL := maxL) (ret := ret) ho hl hstt hini hcode hy hK hg (hsize.trans hml.symm) (argsL := As) (rest := rest) (fun sig h => hn.trans (hlen sig h)) hstack hW (by rw [hb]; exact hdg)
    (fun vm₁ hW₁ => ⟨hf.1, hf.2, hp.2 (T.setVm vm₁) hT hW₁⟩) with ⟨v, vm₁, ⟨U', l2, c2, s2⟩, hW₁, X', ⟨g', mk, t, L, e1, e2, hq, h1, hL, h2, h3⟩, st⟩ | ⟨q, vm₁, ⟨U', l2, c2, s2⟩, hW₁, X', ⟨g', mk, t, L, E, ce, e1, e2, hq, hce, hcv, hcl, h1, hL, h2, h3⟩, st⟩
  · dsimp only [Pt.U, Pt.locs, Pt.cells, Pt.slots] at X' e1 e2 h1 h2 h3 st
    subst h1; subst h2; subst h3
    exact Or.inl ⟨v, (T.setVm vm₁).calling g' mk As.toArray, t, U', L, hT, X', hL, e1, e2, hq, st⟩
  · dsimp only [Pt.U, Pt.locs, Pt.cells, Pt.slots] at X' e1 e2 h1 h2 h3 st hcl
    subst h1; subst h2; subst h3
    exact Or.inr ⟨q, (T.setVm vm₁).calling g' mk As.toArray, t, U', L, E, ce, hT, X', hL, e1, e2, hq, hce, hcv, vx_cls hW₁ hcl, st⟩
end
end VXH
theorem vx_ofWH {l : Launch} {y : MethodName} {ws ws' : List Cond} {rm : Room} {Pc : Array Value → State → Prop} {Qc : Array Value → State → Outcome → State → Prop} {XC : String → State → State → Prop} {mc ms : Nat} {free : Addr → Prop} {cc : ByteArray} {maxL : Nat} {ret : Option FieldType} {hh : List (Nat × Nat × Nat × Nat)}
    (hy : plainName y.cls = true) (hw : ws = Cond.codeWith y cc maxL ret hh :: ws')
    (body : ∀ p e s m args below meth c s₁, BodyLoose p l y (headSpec ws rm) cc maxL ret e s m args below meth c s₁ → c.maxLocals = maxL → Pc args s →
      W p l e (headSpec ws rm).room s m args below meth c s.heap [] 0 0 (vx_MQ below Qc XC args s mc ms free) (entryFrame m args maxL)) : vx_Met l y ws rm Pc Qc XC mc ms free := by
  refine MetFree.of_bodyS (code := cc) (maxLocals := maxL) (ret := ret) hy ?_ ?_
  · intro args s m h hn
    obtain ⟨m9, meth, c, hn9, h1, h2, h3, h4, -, h5, h6, -⟩ := Cond.codeWith_spec (atoms_spec (ws := ws) h _ (by rw [hw]; exact List.mem_cons_self))
    cases hn.symm.trans hn9
    exact ⟨meth, c, h1, h2, h3, h4, h5, h6⟩
  · intro p e s m args below meth c s₁ B hml hP _
    have hh0 : s₁.heap = s.heap := by rw [B.state]; rfl
    obtain ⟨t, a1, o, b1, b2, b3⟩ := body p e s m args below meth c s₁ B hml hP s₁ hh0 (Stand.of_body B)
    exact ⟨t, o, a1, b1, b2, b3⟩
/-! ===== END ===== -/
end
section
/-! ===== BEGIN printed: names, fields, word lists, decode rows ===== -/
def RX0 : String := "StuckRods$Board"
def TX0 : u_T := fun k => match k with
  | 0 => ("StuckRods$Board", "fives", "[I", true)
  | 1 => ("StuckRods$Board", "ones", "[I", true)
  | 2 => ("StuckRods$Board", "stuck", "[I", true)
  | 3 => ("StuckRods$Board", "loan", "[I", true)
  | 4 => ("StuckRods$Board", "moved", "[I", true)
  | 5 => ("StuckRods$Board", "borrowed", "[I", true)
  | _ => ("StuckRods$Board", "setting", "I", false)
def tyX0 : Nat → FieldType := fun k => match k with
  | 0 => .array .int
  | 1 => .array .int
  | 2 => .array .int
  | 3 => .array .int
  | 4 => .array .int
  | 5 => .array .int
  | _ => .int
abbrev wsX00 : List Cond := u_ws RX0 TX0 7
theorem nmX0 : ∀ a, a < 7 → ∀ b, b < 7 → a ≠ b → (TX0 a).2.1 ≠ (TX0 b).2.1 := by decide +kernel
theorem tyX0_ok : ∀ k, k < 7 → parseFieldDescriptor (TX0 k).2.2.1 = some (tyX0 k) := by decide +kernel
abbrev cX0_init : ByteArray := prog_2_method_1_code
def yX0_init : MethodName := ⟨RX0, "<init>", "()V"⟩
abbrev cX0_copyFrom : ByteArray := prog_2_method_2_code
def yX0_copyFrom : MethodName := ⟨RX0, "copyFrom", "(LStuckRods$Board;)V"⟩
abbrev cX0_shown : ByteArray := prog_2_method_3_code
def yX0_shown : MethodName := ⟨RX0, "shown", "(I)I"⟩
abbrev cX0_movesBy : ByteArray := prog_2_method_4_code
def yX0_movesBy : MethodName := ⟨RX0, "movesBy", "(III)I"⟩
abbrev cX0_place : ByteArray := prog_2_method_5_code
def yX0_place : MethodName := ⟨RX0, "place", "(IIII)V"⟩
abbrev cX0_turn : ByteArray := prog_2_method_6_code
def yX0_turn : MethodName := ⟨RX0, "turn", "(IIZ)I"⟩
abbrev cX0_change : ByteArray := prog_2_method_7_code
def yX0_change : MethodName := ⟨RX0, "change", "(IIZ)I"⟩
abbrev cX0_turnAndCarry : ByteArray := prog_2_method_8_code
def yX0_turnAndCarry : MethodName := ⟨RX0, "turnAndCarry", "(IIIZ)I"⟩
abbrev cX0_borrow : ByteArray := prog_2_method_9_code
def yX0_borrow : MethodName := ⟨RX0, "borrow", "(IIZ)Z"⟩
abbrev cX0_payIfPossible : ByteArray := prog_2_method_10_code
def yX0_payIfPossible : MethodName := ⟨RX0, "payIfPossible", "(I)I"⟩
abbrev cX0_orderIfPossible : ByteArray := prog_2_method_11_code
def yX0_orderIfPossible : MethodName := ⟨RX0, "orderIfPossible", "(I)I"⟩
abbrev cX0_reach : ByteArray := prog_2_method_12_code
def yX0_reach : MethodName := ⟨RX0, "reach", "(I)I"⟩
abbrev cX0_allMoved : ByteArray := prog_2_method_13_code
def yX0_allMoved : MethodName := ⟨RX0, "allMoved", "()I"⟩
abbrev cX0_allLoans : ByteArray := prog_2_method_14_code
def yX0_allLoans : MethodName := ⟨RX0, "allLoans", "()I"⟩
abbrev cX0_allShown : ByteArray := prog_2_method_15_code
def yX0_allShown : MethodName := ⟨RX0, "allShown", "()I"⟩
abbrev cX0_rodsWithLoan : ByteArray := prog_2_method_16_code
def yX0_rodsWithLoan : MethodName := ⟨RX0, "rodsWithLoan", "()I"⟩
abbrev cX0_rodsOutOfOrder : ByteArray := prog_2_method_17_code
def yX0_rodsOutOfOrder : MethodName := ⟨RX0, "rodsOutOfOrder", "()I"⟩
abbrev cX0_rodsWithStuck : ByteArray := prog_2_method_18_code
def yX0_rodsWithStuck : MethodName := ⟨RX0, "rodsWithStuck", "()I"⟩
def RX1 : String := "StuckRods$History"
def TX1 : u_T := fun k => match k with
  | 0 => ("StuckRods$History", "slots", "[LStuckRods$Board;", true)
  | 1 => ("StuckRods$History", "oldest", "I", false)
  | _ => ("StuckRods$History", "size", "I", false)
def tyX1 : Nat → FieldType := fun k => match k with
  | 0 => .array (.object "StuckRods$Board")
  | 1 => .int
  | _ => .int
abbrev wsX10 : List Cond := u_ws RX1 TX1 3
theorem nmX1 : ∀ a, a < 3 → ∀ b, b < 3 → a ≠ b → (TX1 a).2.1 ≠ (TX1 b).2.1 := by decide +kernel
theorem tyX1_ok : ∀ k, k < 3 → parseFieldDescriptor (TX1 k).2.2.1 = some (tyX1 k) := by decide +kernel
abbrev cX1_init : ByteArray := prog_3_method_1_code
def yX1_init : MethodName := ⟨RX1, "<init>", "()V"⟩
abbrev cX1_keep : ByteArray := prog_3_method_2_code
def yX1_keep : MethodName := ⟨RX1, "keep", "(LStuckRods$Board;)V"⟩
abbrev cX1_restore : ByteArray := prog_3_method_3_code
def yX1_restore : MethodName := ⟨RX1, "restore", "(LStuckRods$Board;)V"⟩
def RX2 : String := "StuckRods$SumText"
def TX2 : u_T := fun k => match k with
  | 0 => ("StuckRods$SumText", "codes", "[I", true)
  | _ => ("StuckRods$SumText", "length", "I", false)
def tyX2 : Nat → FieldType := fun k => match k with
  | 0 => .array .int
  | _ => .int
abbrev wsX20 : List Cond := u_ws RX2 TX2 2
theorem nmX2 : ∀ a, a < 2 → ∀ b, b < 2 → a ≠ b → (TX2 a).2.1 ≠ (TX2 b).2.1 := by decide +kernel
theorem tyX2_ok : ∀ k, k < 2 → parseFieldDescriptor (TX2 k).2.2.1 = some (tyX2 k) := by decide +kernel
abbrev cX2_init : ByteArray := prog_4_method_1_code
def yX2_init : MethodName := ⟨RX2, "<init>", "()V"⟩
abbrev cX2_firstWrong : ByteArray := prog_4_method_2_code
def yX2_firstWrong : MethodName := ⟨RX2, "firstWrong", "()I"⟩
abbrev cX2_isCompleteSum : ByteArray := prog_4_method_3_code
def yX2_isCompleteSum : MethodName := ⟨RX2, "isCompleteSum", "()Z"⟩
abbrev cX2_digitsBehind : ByteArray := prog_4_method_4_code
def yX2_digitsBehind : MethodName := ⟨RX2, "digitsBehind", "(I)I"⟩
def RX3 : String := "StuckRods"
def TX3 : u_T := fun k => match k with
  | 0 => ("StuckRods", "board", "LStuckRods$Board;", true)
  | 1 => ("StuckRods", "history", "LStuckRods$History;", true)
  | _ => ("StuckRods", "text", "LStuckRods$SumText;", true)
def tyX3 : Nat → FieldType := fun k => match k with
  | 0 => .object "StuckRods$Board"
  | 1 => .object "StuckRods$History"
  | _ => .object "StuckRods$SumText"
abbrev wsX30 : List Cond := u_ws RX3 TX3 3
theorem nmX3 : ∀ a, a < 3 → ∀ b, b < 3 → a ≠ b → (TX3 a).2.1 ≠ (TX3 b).2.1 := by decide +kernel
theorem tyX3_ok : ∀ k, k < 3 → parseFieldDescriptor (TX3 k).2.2.1 = some (tyX3 k) := by decide +kernel
abbrev cX3_init : ByteArray := prog_1_method_1_code
def yX3_init : MethodName := ⟨RX3, "<init>", "()V"⟩
abbrev cX3_move : ByteArray := prog_1_method_2_code
def yX3_move : MethodName := ⟨RX3, "move", "(III)I"⟩
abbrev cX3_stick : ByteArray := prog_1_method_3_code
def yX3_stick : MethodName := ⟨RX3, "stick", "(II)I"⟩
abbrev cX3_set : ByteArray := prog_1_method_4_code
def yX3_set : MethodName := ⟨RX3, "set", "(I)I"⟩
abbrev cX3_add : ByteArray := prog_1_method_5_code
def yX3_add : MethodName := ⟨RX3, "add", "(II)I"⟩
abbrev cX3_less : ByteArray := prog_1_method_6_code
def yX3_less : MethodName := ⟨RX3, "less", "(II)I"⟩
abbrev cX3_pay : ByteArray := prog_1_method_7_code
def yX3_pay : MethodName := ⟨RX3, "pay", "(I)I"⟩
abbrev cX3_tidy : ByteArray := prog_1_method_8_code
def yX3_tidy : MethodName := ⟨RX3, "tidy", "()I"⟩
abbrev cX3_append : ByteArray := prog_1_method_9_code
def yX3_append : MethodName := ⟨RX3, "append", "(I)I"⟩
abbrev cX3_clearBuffer : ByteArray := prog_1_method_10_code
def yX3_clearBuffer : MethodName := ⟨RX3, "clearBuffer", "()I"⟩
abbrev cX3_firstError : ByteArray := prog_1_method_11_code
def yX3_firstError : MethodName := ⟨RX3, "firstError", "()I"⟩
abbrev cX3_reckon : ByteArray := prog_1_method_12_code
def yX3_reckon : MethodName := ⟨RX3, "reckon", "()I"⟩
abbrev cX3_undo : ByteArray := prog_1_method_13_code
def yX3_undo : MethodName := ⟨RX3, "undo", "()I"⟩
abbrev cX3_rod : ByteArray := prog_1_method_14_code
def yX3_rod : MethodName := ⟨RX3, "rod", "(II)I"⟩
abbrev cX3_whole : ByteArray := prog_1_method_15_code
def yX3_whole : MethodName := ⟨RX3, "whole", "()J"⟩
abbrev cX3_count : ByteArray := prog_1_method_16_code
def yX3_count : MethodName := ⟨RX3, "count", "(I)I"⟩
abbrev cX3_moves : ByteArray := prog_1_method_17_code
def yX3_moves : MethodName := ⟨RX3, "moves", "(II)I"⟩
abbrev cX3_ifAdded : ByteArray := prog_1_method_18_code
def yX3_ifAdded : MethodName := ⟨RX3, "ifAdded", "(II)I"⟩
abbrev cX3_toShow : ByteArray := prog_1_method_19_code
def yX3_toShow : MethodName := ⟨RX3, "toShow", "(I)I"⟩
abbrev cX3_cheapestLoan : ByteArray := prog_1_method_20_code
def yX3_cheapestLoan : MethodName := ⟨RX3, "cheapestLoan", "()I"⟩
abbrev cX3_looseness : ByteArray := prog_1_method_21_code
def yX3_looseness : MethodName := ⟨RX3, "looseness", "()D"⟩
abbrev cX3_digest : ByteArray := prog_1_method_22_code
def yX3_digest : MethodName := ⟨RX3, "digest", "()J"⟩
abbrev cX3_checkRod : ByteArray := prog_1_method_23_code
def yX3_checkRod : MethodName := ⟨RX3, "checkRod", "(I)V"⟩
abbrev cX3_checkRange : ByteArray := prog_1_method_24_code
def yX3_checkRange : MethodName := ⟨RX3, "checkRange", "(III)V"⟩
abbrev cX3_changeOrThrow : ByteArray := prog_1_method_25_code
def yX3_changeOrThrow : MethodName := ⟨RX3, "changeOrThrow", "(II)I"⟩
abbrev cX3_reckonTerm : ByteArray := prog_1_method_26_code
def yX3_reckonTerm : MethodName := ⟨RX3, "reckonTerm", "(II)I"⟩
abbrev cX3_isSign : ByteArray := prog_1_method_27_code
def yX3_isSign : MethodName := ⟨RX3, "isSign", "(I)Z"⟩
abbrev cX3_isDigit : ByteArray := prog_1_method_28_code
def yX3_isDigit : MethodName := ⟨RX3, "isDigit", "(I)Z"⟩
abbrev cX3_mixed : ByteArray := prog_1_method_29_code
def yX3_mixed : MethodName := ⟨RX3, "mixed", "(JJ)J"⟩
abbrev cX3_bitsOf : ByteArray := prog_1_method_30_code
def yX3_bitsOf : MethodName := ⟨RX3, "bitsOf", "(D)J"⟩
def RX4 : String := "StuckRodsModel"
def TX4 : u_T := fun k => match k with
  | 0 => ("StuckRodsModel", "thrown", "I", false)
  | 1 => ("StuckRodsModel", "s", "[I", true)
  | 2 => ("StuckRodsModel", "aside", "[I", true)
  | 3 => ("StuckRodsModel", "saved", "[I", true)
  | 4 => ("StuckRodsModel", "savedMany", "I", false)
  | 5 => ("StuckRodsModel", "text", "[I", true)
  | 6 => ("StuckRodsModel", "length", "I", false)
  | _ => ("StuckRodsModel", "digested", "J", false)
def tyX4 : Nat → FieldType := fun k => match k with
  | 0 => .int
  | 1 => .array .int
  | 2 => .array .int
  | 3 => .array .int
  | 4 => .int
  | 5 => .array .int
  | 6 => .int
  | _ => .long
abbrev wsX40 : List Cond := u_ws RX4 TX4 8
theorem nmX4 : ∀ a, a < 8 → ∀ b, b < 8 → a ≠ b → (TX4 a).2.1 ≠ (TX4 b).2.1 := by decide +kernel
theorem tyX4_ok : ∀ k, k < 8 → parseFieldDescriptor (TX4 k).2.2.1 = some (tyX4 k) := by decide +kernel
abbrev cX4_init : ByteArray := prog_6_method_1_code
def yX4_init : MethodName := ⟨RX4, "<init>", "()V"⟩
abbrev cX4_thrown : ByteArray := prog_6_method_2_code
def yX4_thrown : MethodName := ⟨RX4, "thrown", "()I"⟩
abbrev cX4_in : ByteArray := prog_6_method_3_code
def yX4_in : MethodName := ⟨RX4, "in", "(III)Z"⟩
abbrev cX4_holds : ByteArray := prog_6_method_4_code
def yX4_holds : MethodName := ⟨RX4, "holds", "(I)Z"⟩
abbrev cX4_of : ByteArray := prog_6_method_5_code
def yX4_of : MethodName := ⟨RX4, "of", "(II)I"⟩
abbrev cX4_isRod : ByteArray := prog_6_method_6_code
def yX4_isRod : MethodName := ⟨RX4, "isRod", "(I)Z"⟩
abbrev cX4_size : ByteArray := prog_6_method_7_code
def yX4_size : MethodName := ⟨RX4, "size", "(I)I"⟩
abbrev cX4_save : ByteArray := prog_6_method_8_code
def yX4_save : MethodName := ⟨RX4, "save", "()V"⟩
abbrev cX4_putAside : ByteArray := prog_6_method_9_code
def yX4_putAside : MethodName := ⟨RX4, "putAside", "()V"⟩
abbrev cX4_putBack : ByteArray := prog_6_method_10_code
def yX4_putBack : MethodName := ⟨RX4, "putBack", "()V"⟩
abbrev cX4_shows : ByteArray := prog_6_method_11_code
def yX4_shows : MethodName := ⟨RX4, "shows", "(I)I"⟩
abbrev cX4_movesTo : ByteArray := prog_6_method_12_code
def yX4_movesTo : MethodName := ⟨RX4, "movesTo", "(III)I"⟩
abbrev cX4_isLoose : ByteArray := prog_6_method_13_code
def yX4_isLoose : MethodName := ⟨RX4, "isLoose", "(III)Z"⟩
abbrev cX4_fivesFor : ByteArray := prog_6_method_14_code
def yX4_fivesFor : MethodName := ⟨RX4, "fivesFor", "(II)I"⟩
abbrev cX4_can : ByteArray := prog_6_method_15_code
def yX4_can : MethodName := ⟨RX4, "can", "(II)Z"⟩
abbrev cX4_movesBeads : ByteArray := prog_6_method_16_code
def yX4_movesBeads : MethodName := ⟨RX4, "movesBeads", "(III)I"⟩
abbrev cX4_comes : ByteArray := prog_6_method_17_code
def yX4_comes : MethodName := ⟨RX4, "comes", "(II)V"⟩
abbrev cX4_allMoves : ByteArray := prog_6_method_18_code
def yX4_allMoves : MethodName := ⟨RX4, "allMoves", "()I"⟩
abbrev cX4_carries : ByteArray := prog_6_method_19_code
def yX4_carries : MethodName := ⟨RX4, "carries", "(II)Z"⟩
abbrev cX4_adds : ByteArray := prog_6_method_20_code
def yX4_adds : MethodName := ⟨RX4, "adds", "(II)Z"⟩
abbrev cX4_pays : ByteArray := prog_6_method_21_code
def yX4_pays : MethodName := ⟨RX4, "pays", "(I)Z"⟩
abbrev cX4_orders : ByteArray := prog_6_method_22_code
def yX4_orders : MethodName := ⟨RX4, "orders", "(I)Z"⟩
abbrev cX4_tries : ByteArray := prog_6_method_23_code
def yX4_tries : MethodName := ⟨RX4, "tries", "(III)Z"⟩
abbrev cX4_move : ByteArray := prog_6_method_24_code
def yX4_move : MethodName := ⟨RX4, "move", "(III)I"⟩
abbrev cX4_puts : ByteArray := prog_6_method_25_code
def yX4_puts : MethodName := ⟨RX4, "puts", "(II)I"⟩
abbrev cX4_stick : ByteArray := prog_6_method_26_code
def yX4_stick : MethodName := ⟨RX4, "stick", "(II)I"⟩
abbrev cX4_set : ByteArray := prog_6_method_27_code
def yX4_set : MethodName := ⟨RX4, "set", "(I)I"⟩
abbrev cX4_takes : ByteArray := prog_6_method_28_code
def yX4_takes : MethodName := ⟨RX4, "takes", "(III)I"⟩
abbrev cX4_does : ByteArray := prog_6_method_29_code
def yX4_does : MethodName := ⟨RX4, "does", "(III)I"⟩
abbrev cX4_add : ByteArray := prog_6_method_30_code
def yX4_add : MethodName := ⟨RX4, "add", "(II)I"⟩
abbrev cX4_less : ByteArray := prog_6_method_31_code
def yX4_less : MethodName := ⟨RX4, "less", "(II)I"⟩
abbrev cX4_pay : ByteArray := prog_6_method_32_code
def yX4_pay : MethodName := ⟨RX4, "pay", "(I)I"⟩
abbrev cX4_tidy : ByteArray := prog_6_method_33_code
def yX4_tidy : MethodName := ⟨RX4, "tidy", "()I"⟩
abbrev cX4_append : ByteArray := prog_6_method_34_code
def yX4_append : MethodName := ⟨RX4, "append", "(I)I"⟩
abbrev cX4_clearBuffer : ByteArray := prog_6_method_35_code
def yX4_clearBuffer : MethodName := ⟨RX4, "clearBuffer", "()I"⟩
abbrev cX4_wrong : ByteArray := prog_6_method_36_code
def yX4_wrong : MethodName := ⟨RX4, "wrong", "()I"⟩
abbrev cX4_firstError : ByteArray := prog_6_method_37_code
def yX4_firstError : MethodName := ⟨RX4, "firstError", "()I"⟩
abbrev cX4_term : ByteArray := prog_6_method_38_code
def yX4_term : MethodName := ⟨RX4, "term", "(II)I"⟩
abbrev cX4_reckons : ByteArray := prog_6_method_39_code
def yX4_reckons : MethodName := ⟨RX4, "reckons", "()I"⟩
abbrev cX4_reckon : ByteArray := prog_6_method_40_code
def yX4_reckon : MethodName := ⟨RX4, "reckon", "()I"⟩
abbrev cX4_undo : ByteArray := prog_6_method_41_code
def yX4_undo : MethodName := ⟨RX4, "undo", "()I"⟩
abbrev cX4_numbers : ByteArray := prog_6_method_42_code
def yX4_numbers : MethodName := ⟨RX4, "numbers", "(I)I"⟩
abbrev cX4_told : ByteArray := prog_6_method_43_code
def yX4_told : MethodName := ⟨RX4, "told", "(II)I"⟩
abbrev cX4_rod : ByteArray := prog_6_method_44_code
def yX4_rod : MethodName := ⟨RX4, "rod", "(II)I"⟩
abbrev cX4_all : ByteArray := prog_6_method_45_code
def yX4_all : MethodName := ⟨RX4, "all", "()J"⟩
abbrev cX4_whole : ByteArray := prog_6_method_46_code
def yX4_whole : MethodName := ⟨RX4, "whole", "()J"⟩
abbrev cX4_sum : ByteArray := prog_6_method_47_code
def yX4_sum : MethodName := ⟨RX4, "sum", "(I)I"⟩
abbrev cX4_counted : ByteArray := prog_6_method_48_code
def yX4_counted : MethodName := ⟨RX4, "counted", "(I)I"⟩
abbrev cX4_count : ByteArray := prog_6_method_49_code
def yX4_count : MethodName := ⟨RX4, "count", "(I)I"⟩
abbrev cX4_movesFor : ByteArray := prog_6_method_50_code
def yX4_movesFor : MethodName := ⟨RX4, "movesFor", "(II)I"⟩
abbrev cX4_moves : ByteArray := prog_6_method_51_code
def yX4_moves : MethodName := ⟨RX4, "moves", "(II)I"⟩
abbrev cX4_ifAdded : ByteArray := prog_6_method_52_code
def yX4_ifAdded : MethodName := ⟨RX4, "ifAdded", "(II)I"⟩
abbrev cX4_showing : ByteArray := prog_6_method_53_code
def yX4_showing : MethodName := ⟨RX4, "showing", "(I)I"⟩
abbrev cX4_toShow : ByteArray := prog_6_method_54_code
def yX4_toShow : MethodName := ⟨RX4, "toShow", "(I)I"⟩
abbrev cX4_cheapest : ByteArray := prog_6_method_55_code
def yX4_cheapest : MethodName := ⟨RX4, "cheapest", "()I"⟩
abbrev cX4_cheapestLoan : ByteArray := prog_6_method_56_code
def yX4_cheapestLoan : MethodName := ⟨RX4, "cheapestLoan", "()I"⟩
abbrev cX4_loose : ByteArray := prog_6_method_57_code
def yX4_loose : MethodName := ⟨RX4, "loose", "()D"⟩
abbrev cX4_looseness : ByteArray := prog_6_method_58_code
def yX4_looseness : MethodName := ⟨RX4, "looseness", "()D"⟩
abbrev cX4_bitsOf : ByteArray := prog_6_method_59_code
def yX4_bitsOf : MethodName := ⟨RX4, "bitsOf", "(D)J"⟩
abbrev cX4_digestOne : ByteArray := prog_6_method_60_code
def yX4_digestOne : MethodName := ⟨RX4, "digestOne", "(J)V"⟩
abbrev cX4_digestRod : ByteArray := prog_6_method_61_code
def yX4_digestRod : MethodName := ⟨RX4, "digestRod", "(I)V"⟩
abbrev cX4_digest : ByteArray := prog_6_method_62_code
def yX4_digest : MethodName := ⟨RX4, "digest", "()J"⟩
def RJ9 : String := "java/lang/Math"
def TJ9 : u_T := fun k => match k with
  | _ => ("", "", "", false)
def tyJ9 : Nat → FieldType := fun k => match k with
  | _ => .int
abbrev wsJ90 : List Cond := u_ws RJ9 TJ9 0
theorem nmJ9 : ∀ a, a < 0 → ∀ b, b < 0 → a ≠ b → (TJ9 a).2.1 ≠ (TJ9 b).2.1 := by decide +kernel
theorem tyJ9_ok : ∀ k, k < 0 → parseFieldDescriptor (TJ9 k).2.2.1 = some (tyJ9 k) := by decide +kernel
abbrev cJ9_floorMod_7cf53 : ByteArray := prog_11_method_50_code
def yJ9_floorMod_7cf53 : MethodName := ⟨RJ9, "floorMod", "(II)I"⟩
abbrev cJ9_abs_0f7a4 : ByteArray := prog_11_method_59_code
def yJ9_abs_0f7a4 : MethodName := ⟨RJ9, "abs", "(I)I"⟩
def RJ0 : String := "java/lang/String"
def TJ0 : u_T := fun k => match k with
  | _ => ("", "", "", false)
def tyJ0 : Nat → FieldType := fun k => match k with
  | _ => .int
abbrev wsJ00 : List Cond := u_ws RJ0 TJ0 0
theorem nmJ0 : ∀ a, a < 0 → ∀ b, b < 0 → a ≠ b → (TJ0 a).2.1 ≠ (TJ0 b).2.1 := by decide +kernel
theorem tyJ0_ok : ∀ k, k < 0 → parseFieldDescriptor (TJ0 k).2.2.1 = some (tyJ0 k) := by decide +kernel
def RL : String := "StuckRodsLaw"
abbrev cL_move : ByteArray := method_3_code
def yL_move : MethodName := ⟨RL, "move", "(LStuckRods;III[J)I"⟩
abbrev cL_stick : ByteArray := method_4_code
def yL_stick : MethodName := ⟨RL, "stick", "(LStuckRods;II[J)I"⟩
abbrev cL_set : ByteArray := method_5_code
def yL_set : MethodName := ⟨RL, "set", "(LStuckRods;I[J)I"⟩
abbrev cL_add : ByteArray := method_6_code
def yL_add : MethodName := ⟨RL, "add", "(LStuckRods;II[J)I"⟩
abbrev cL_less : ByteArray := method_7_code
def yL_less : MethodName := ⟨RL, "less", "(LStuckRods;II[J)I"⟩
abbrev cL_pay : ByteArray := method_8_code
def yL_pay : MethodName := ⟨RL, "pay", "(LStuckRods;I[J)I"⟩
abbrev cL_append : ByteArray := method_9_code
def yL_append : MethodName := ⟨RL, "append", "(LStuckRods;I[J)I"⟩
abbrev cL_reckon : ByteArray := method_10_code
def yL_reckon : MethodName := ⟨RL, "reckon", "(LStuckRods;[J)I"⟩
abbrev cL_undo : ByteArray := method_11_code
def yL_undo : MethodName := ⟨RL, "undo", "(LStuckRods;[J)I"⟩
abbrev cL_rod : ByteArray := method_12_code
def yL_rod : MethodName := ⟨RL, "rod", "(LStuckRods;II[J)I"⟩
abbrev cL_count : ByteArray := method_13_code
def yL_count : MethodName := ⟨RL, "count", "(LStuckRods;I[J)I"⟩
abbrev cL_moves : ByteArray := method_14_code
def yL_moves : MethodName := ⟨RL, "moves", "(LStuckRods;II[J)I"⟩
abbrev cL_ifAdded : ByteArray := method_15_code
def yL_ifAdded : MethodName := ⟨RL, "ifAdded", "(LStuckRods;II[J)I"⟩
abbrev cL_toShow : ByteArray := method_16_code
def yL_toShow : MethodName := ⟨RL, "toShow", "(LStuckRods;I[J)I"⟩
abbrev cL_law : ByteArray := code
def yL_law : MethodName := ⟨RL, "law", "([I)Z"⟩
def wsX0_init : List Cond := .code yX0_init cX0_init 1 none :: ([.methodLink RX0 3 objectInit, .instanceMethod objectInit, .code objectInit ⟨#[0xb1]⟩ 1 none, .arrayClass .int, .fieldLink RX0 9 "StuckRods$Board" "fives" "[I", .fieldLink RX0 15 "StuckRods$Board" "ones" "[I", .fieldLink RX0 18 "StuckRods$Board" "stuck" "[I", .fieldLink RX0 21 "StuckRods$Board" "loan" "[I", .fieldLink RX0 24 "StuckRods$Board" "moved" "[I", .fieldLink RX0 27 "StuckRods$Board" "borrowed" "[I", .fieldLink RX0 30 "StuckRods$Board" "setting" "I"] ++ wsX00)
def wsX0_copyFrom : List Cond := .code yX0_copyFrom cX0_copyFrom 3 none :: ([.fieldLink RX0 9 "StuckRods$Board" "fives" "[I", .fieldLink RX0 15 "StuckRods$Board" "ones" "[I", .fieldLink RX0 18 "StuckRods$Board" "stuck" "[I", .fieldLink RX0 21 "StuckRods$Board" "loan" "[I", .fieldLink RX0 24 "StuckRods$Board" "moved" "[I", .fieldLink RX0 27 "StuckRods$Board" "borrowed" "[I", .fieldLink RX0 30 "StuckRods$Board" "setting" "I"] ++ wsX00)
def wsX0_shown : List Cond := .code yX0_shown cX0_shown 2 (some .int) :: ([.fieldLink RX0 9 "StuckRods$Board" "fives" "[I", .fieldLink RX0 15 "StuckRods$Board" "ones" "[I"] ++ wsX00)
def wsX0_movesBy : List Cond := .code yX0_movesBy cX0_movesBy 6 (some .int) :: ([.fieldLink RX0 9 "StuckRods$Board" "fives" "[I", .methodLink RX0 34 Lib.Math.abs.name, .static Lib.Math.abs.name, .initialized "java/lang/Math", .code Lib.Math.abs.name Lib.Math.abs.code 1 (some .int), .fieldLink RX0 15 "StuckRods$Board" "ones" "[I", .fieldLink RX0 18 "StuckRods$Board" "stuck" "[I"] ++ wsX00)
def wsX0_place : List Cond := .code yX0_place cX0_place 5 none :: ([.fieldLink RX0 9 "StuckRods$Board" "fives" "[I", .fieldLink RX0 15 "StuckRods$Board" "ones" "[I", .fieldLink RX0 24 "StuckRods$Board" "moved" "[I"] ++ wsX00)
def wsX0_turn : List Cond := .code yX0_turn cX0_turn 8 (some .int) :: ([.methodLink RX0 40 yX0_movesBy, .instanceMethod yX0_movesBy, .selects RX0 yX0_movesBy yX0_movesBy, .initialized RX0, .code yX0_movesBy cX0_movesBy 6 (some .int), .fieldLink RX0 9 "StuckRods$Board" "fives" "[I", .methodLink RX0 34 Lib.Math.abs.name, .static Lib.Math.abs.name, .initialized "java/lang/Math", .code Lib.Math.abs.name Lib.Math.abs.code 1 (some .int), .fieldLink RX0 15 "StuckRods$Board" "ones" "[I", .fieldLink RX0 18 "StuckRods$Board" "stuck" "[I", .methodLink RX0 44 yX0_place, .instanceMethod yX0_place, .selects RX0 yX0_place yX0_place, .code yX0_place cX0_place 5 none, .fieldLink RX0 24 "StuckRods$Board" "moved" "[I"] ++ wsX00)
def wsX0_borrow : List Cond := .code yX0_borrow cX0_borrow 5 (some .boolean) :: ([.fieldLink RX0 21 "StuckRods$Board" "loan" "[I", .fieldLink RX0 30 "StuckRods$Board" "setting" "I", .fieldLink RX0 27 "StuckRods$Board" "borrowed" "[I"] ++ wsX00)
def wsX0_turnAndCarry_r1 : List Cond := [Cond.methodLink RX0 51 yX0_turn, Cond.instanceMethod yX0_turn, Cond.selects RX0 yX0_turn yX0_turn, Cond.initialized RX0, Cond.code yX0_turn cX0_turn 8 (some .int), Cond.methodLink RX0 40 yX0_movesBy, Cond.instanceMethod yX0_movesBy, Cond.selects RX0 yX0_movesBy yX0_movesBy, Cond.code yX0_movesBy cX0_movesBy 6 (some .int), Cond.fieldLink RX0 9 "StuckRods$Board" "fives" "[I", Cond.methodLink RX0 34 Lib.Math.abs.name, Cond.static Lib.Math.abs.name, Cond.initialized "java/lang/Math", Cond.code Lib.Math.abs.name Lib.Math.abs.code 1 (some .int), Cond.fieldLink RX0 15 "StuckRods$Board" "ones" "[I", Cond.fieldLink RX0 18 "StuckRods$Board" "stuck" "[I", Cond.methodLink RX0 44 yX0_place, Cond.instanceMethod yX0_place, Cond.selects RX0 yX0_place yX0_place, Cond.code yX0_place cX0_place 5 none, Cond.fieldLink RX0 24 "StuckRods$Board" "moved" "[I", Cond.methodLink RX0 48 yX0_shown, Cond.instanceMethod yX0_shown, Cond.selects RX0 yX0_shown yX0_shown]
def wsX0_turnAndCarry_r2 : List Cond := [Cond.code yX0_shown cX0_shown 2 (some .int), Cond.methodLink RX0 59 yX0_borrow, Cond.instanceMethod yX0_borrow, Cond.selects RX0 yX0_borrow yX0_borrow, Cond.code yX0_borrow cX0_borrow 5 (some .boolean), Cond.fieldLink RX0 21 "StuckRods$Board" "loan" "[I", Cond.fieldLink RX0 30 "StuckRods$Board" "setting" "I", Cond.fieldLink RX0 27 "StuckRods$Board" "borrowed" "[I"]
def wsX0_turnAndCarry : List Cond := .code yX0_turnAndCarry cX0_turnAndCarry 8 (some .int) :: ((wsX0_turnAndCarry_r1 ++ wsX0_turnAndCarry_r2) ++ wsX00)
def wsX0_change_r1 : List Cond := [Cond.methodLink RX0 48 yX0_shown, Cond.instanceMethod yX0_shown, Cond.selects RX0 yX0_shown yX0_shown, Cond.initialized RX0, Cond.code yX0_shown cX0_shown 2 (some .int), Cond.fieldLink RX0 9 "StuckRods$Board" "fives" "[I", Cond.fieldLink RX0 15 "StuckRods$Board" "ones" "[I", Cond.methodLink RX0 51 yX0_turn, Cond.instanceMethod yX0_turn, Cond.selects RX0 yX0_turn yX0_turn, Cond.code yX0_turn cX0_turn 8 (some .int), Cond.methodLink RX0 40 yX0_movesBy, Cond.instanceMethod yX0_movesBy, Cond.selects RX0 yX0_movesBy yX0_movesBy, Cond.code yX0_movesBy cX0_movesBy 6 (some .int), Cond.methodLink RX0 34 Lib.Math.abs.name, Cond.static Lib.Math.abs.name, Cond.initialized "java/lang/Math", Cond.code Lib.Math.abs.name Lib.Math.abs.code 1 (some .int), Cond.fieldLink RX0 18 "StuckRods$Board" "stuck" "[I", Cond.methodLink RX0 44 yX0_place, Cond.instanceMethod yX0_place, Cond.selects RX0 yX0_place yX0_place, Cond.code yX0_place cX0_place 5 none]
def wsX0_change_r2 : List Cond := [Cond.fieldLink RX0 24 "StuckRods$Board" "moved" "[I", Cond.methodLink RX0 55 yX0_turnAndCarry, Cond.instanceMethod yX0_turnAndCarry, Cond.selects RX0 yX0_turnAndCarry yX0_turnAndCarry, Cond.code yX0_turnAndCarry cX0_turnAndCarry 8 (some .int), Cond.methodLink RX0 59 yX0_borrow, Cond.instanceMethod yX0_borrow, Cond.selects RX0 yX0_borrow yX0_borrow, Cond.code yX0_borrow cX0_borrow 5 (some .boolean), Cond.fieldLink RX0 21 "StuckRods$Board" "loan" "[I", Cond.fieldLink RX0 30 "StuckRods$Board" "setting" "I", Cond.fieldLink RX0 27 "StuckRods$Board" "borrowed" "[I"]
def wsX0_change : List Cond := .code yX0_change cX0_change 6 (some .int) :: ((wsX0_change_r1 ++ wsX0_change_r2) ++ wsX00)
def wsX0_payIfPossible_r1 : List Cond := [Cond.fieldLink RX0 21 "StuckRods$Board" "loan" "[I", Cond.methodLink RX0 63 yX0_change, Cond.instanceMethod yX0_change, Cond.selects RX0 yX0_change yX0_change, Cond.initialized RX0, Cond.code yX0_change cX0_change 6 (some .int), Cond.methodLink RX0 48 yX0_shown, Cond.instanceMethod yX0_shown, Cond.selects RX0 yX0_shown yX0_shown, Cond.code yX0_shown cX0_shown 2 (some .int), Cond.fieldLink RX0 9 "StuckRods$Board" "fives" "[I", Cond.fieldLink RX0 15 "StuckRods$Board" "ones" "[I", Cond.methodLink RX0 51 yX0_turn, Cond.instanceMethod yX0_turn, Cond.selects RX0 yX0_turn yX0_turn, Cond.code yX0_turn cX0_turn 8 (some .int), Cond.methodLink RX0 40 yX0_movesBy, Cond.instanceMethod yX0_movesBy, Cond.selects RX0 yX0_movesBy yX0_movesBy, Cond.code yX0_movesBy cX0_movesBy 6 (some .int), Cond.methodLink RX0 34 Lib.Math.abs.name, Cond.static Lib.Math.abs.name, Cond.initialized "java/lang/Math", Cond.code Lib.Math.abs.name Lib.Math.abs.code 1 (some .int)]
def wsX0_payIfPossible_r2 : List Cond := [Cond.fieldLink RX0 18 "StuckRods$Board" "stuck" "[I", Cond.methodLink RX0 44 yX0_place, Cond.instanceMethod yX0_place, Cond.selects RX0 yX0_place yX0_place, Cond.code yX0_place cX0_place 5 none, Cond.fieldLink RX0 24 "StuckRods$Board" "moved" "[I", Cond.methodLink RX0 55 yX0_turnAndCarry, Cond.instanceMethod yX0_turnAndCarry, Cond.selects RX0 yX0_turnAndCarry yX0_turnAndCarry, Cond.code yX0_turnAndCarry cX0_turnAndCarry 8 (some .int), Cond.methodLink RX0 59 yX0_borrow, Cond.instanceMethod yX0_borrow, Cond.selects RX0 yX0_borrow yX0_borrow, Cond.code yX0_borrow cX0_borrow 5 (some .boolean), Cond.fieldLink RX0 30 "StuckRods$Board" "setting" "I", Cond.fieldLink RX0 27 "StuckRods$Board" "borrowed" "[I"]
def wsX0_payIfPossible : List Cond := .code yX0_payIfPossible cX0_payIfPossible 3 (some .int) :: ((wsX0_payIfPossible_r1 ++ wsX0_payIfPossible_r2) ++ wsX00)
def wsX0_orderIfPossible_r1 : List Cond := [Cond.methodLink RX0 48 yX0_shown, Cond.instanceMethod yX0_shown, Cond.selects RX0 yX0_shown yX0_shown, Cond.initialized RX0, Cond.code yX0_shown cX0_shown 2 (some .int), Cond.fieldLink RX0 9 "StuckRods$Board" "fives" "[I", Cond.fieldLink RX0 15 "StuckRods$Board" "ones" "[I", Cond.methodLink RX0 55 yX0_turnAndCarry, Cond.instanceMethod yX0_turnAndCarry, Cond.selects RX0 yX0_turnAndCarry yX0_turnAndCarry, Cond.code yX0_turnAndCarry cX0_turnAndCarry 8 (some .int), Cond.methodLink RX0 51 yX0_turn, Cond.instanceMethod yX0_turn, Cond.selects RX0 yX0_turn yX0_turn, Cond.code yX0_turn cX0_turn 8 (some .int), Cond.methodLink RX0 40 yX0_movesBy, Cond.instanceMethod yX0_movesBy, Cond.selects RX0 yX0_movesBy yX0_movesBy, Cond.code yX0_movesBy cX0_movesBy 6 (some .int), Cond.methodLink RX0 34 Lib.Math.abs.name, Cond.static Lib.Math.abs.name, Cond.initialized "java/lang/Math", Cond.code Lib.Math.abs.name Lib.Math.abs.code 1 (some .int), Cond.fieldLink RX0 18 "StuckRods$Board" "stuck" "[I"]
def wsX0_orderIfPossible_r2 : List Cond := [Cond.methodLink RX0 44 yX0_place, Cond.instanceMethod yX0_place, Cond.selects RX0 yX0_place yX0_place, Cond.code yX0_place cX0_place 5 none, Cond.fieldLink RX0 24 "StuckRods$Board" "moved" "[I", Cond.methodLink RX0 59 yX0_borrow, Cond.instanceMethod yX0_borrow, Cond.selects RX0 yX0_borrow yX0_borrow, Cond.code yX0_borrow cX0_borrow 5 (some .boolean), Cond.fieldLink RX0 21 "StuckRods$Board" "loan" "[I", Cond.fieldLink RX0 30 "StuckRods$Board" "setting" "I", Cond.fieldLink RX0 27 "StuckRods$Board" "borrowed" "[I"]
def wsX0_orderIfPossible : List Cond := .code yX0_orderIfPossible cX0_orderIfPossible 3 (some .int) :: ((wsX0_orderIfPossible_r1 ++ wsX0_orderIfPossible_r2) ++ wsX00)
def wsX0_reach : List Cond := .code yX0_reach cX0_reach 4 (some .int) :: ([.methodLink RX0 51 yX0_turn, .instanceMethod yX0_turn, .selects RX0 yX0_turn yX0_turn, .initialized RX0, .code yX0_turn cX0_turn 8 (some .int), .methodLink RX0 40 yX0_movesBy, .instanceMethod yX0_movesBy, .selects RX0 yX0_movesBy yX0_movesBy, .code yX0_movesBy cX0_movesBy 6 (some .int), .fieldLink RX0 9 "StuckRods$Board" "fives" "[I", .methodLink RX0 34 Lib.Math.abs.name, .static Lib.Math.abs.name, .initialized "java/lang/Math", .code Lib.Math.abs.name Lib.Math.abs.code 1 (some .int), .fieldLink RX0 15 "StuckRods$Board" "ones" "[I", .fieldLink RX0 18 "StuckRods$Board" "stuck" "[I", .methodLink RX0 44 yX0_place, .instanceMethod yX0_place, .selects RX0 yX0_place yX0_place, .code yX0_place cX0_place 5 none, .fieldLink RX0 24 "StuckRods$Board" "moved" "[I"] ++ wsX00)
def wsX0_allMoved : List Cond := .code yX0_allMoved cX0_allMoved 3 (some .int) :: ([.fieldLink RX0 24 "StuckRods$Board" "moved" "[I"] ++ wsX00)
def wsX0_allLoans : List Cond := .code yX0_allLoans cX0_allLoans 3 (some .int) :: ([.fieldLink RX0 21 "StuckRods$Board" "loan" "[I"] ++ wsX00)
def wsX0_allShown : List Cond := .code yX0_allShown cX0_allShown 3 (some .int) :: ([.methodLink RX0 48 yX0_shown, .instanceMethod yX0_shown, .selects RX0 yX0_shown yX0_shown, .initialized RX0, .code yX0_shown cX0_shown 2 (some .int), .fieldLink RX0 9 "StuckRods$Board" "fives" "[I", .fieldLink RX0 15 "StuckRods$Board" "ones" "[I"] ++ wsX00)
def wsX0_rodsWithLoan : List Cond := .code yX0_rodsWithLoan cX0_rodsWithLoan 3 (some .int) :: ([.fieldLink RX0 21 "StuckRods$Board" "loan" "[I"] ++ wsX00)
def wsX0_rodsOutOfOrder : List Cond := .code yX0_rodsOutOfOrder cX0_rodsOutOfOrder 3 (some .int) :: ([.methodLink RX0 48 yX0_shown, .instanceMethod yX0_shown, .selects RX0 yX0_shown yX0_shown, .initialized RX0, .code yX0_shown cX0_shown 2 (some .int), .fieldLink RX0 9 "StuckRods$Board" "fives" "[I", .fieldLink RX0 15 "StuckRods$Board" "ones" "[I"] ++ wsX00)
def wsX0_rodsWithStuck : List Cond := .code yX0_rodsWithStuck cX0_rodsWithStuck 3 (some .int) :: ([.fieldLink RX0 18 "StuckRods$Board" "stuck" "[I"] ++ wsX00)
def wsX1_init : List Cond := .code yX1_init cX1_init 2 none :: ([.methodLink RX1 3 objectInit, .instanceMethod objectInit, .code objectInit ⟨#[0xb1]⟩ 1 none, .classLink RX1 9 RX0, .fieldLink RX1 11 "StuckRods$History" "slots" "[LStuckRods$Board;", .fieldLink RX1 17 "StuckRods$History" "oldest" "I", .fieldLink RX1 21 "StuckRods$History" "size" "I", .instantiable RX0 7, .initialized RX0, .methodLink RX1 24 yX0_init, .instanceMethod yX0_init, .code yX0_init cX0_init 1 none, .methodLink RX0 3 objectInit, .arrayClass .int, .fieldLink RX0 9 "StuckRods$Board" "fives" "[I", .fieldLink RX0 15 "StuckRods$Board" "ones" "[I", .fieldLink RX0 18 "StuckRods$Board" "stuck" "[I", .fieldLink RX0 21 "StuckRods$Board" "loan" "[I", .fieldLink RX0 24 "StuckRods$Board" "moved" "[I", .fieldLink RX0 27 "StuckRods$Board" "borrowed" "[I", .fieldLink RX0 30 "StuckRods$Board" "setting" "I"] ++ wsX10 ++ wsX00)
def wsX1_keep : List Cond := .code yX1_keep cX1_keep 2 none :: ([.fieldLink RX1 21 "StuckRods$History" "size" "I", .fieldLink RX1 17 "StuckRods$History" "oldest" "I", .fieldLink RX1 11 "StuckRods$History" "slots" "[LStuckRods$Board;", .methodLink RX1 25 yX0_copyFrom, .instanceMethod yX0_copyFrom, .selects RX0 yX0_copyFrom yX0_copyFrom, .initialized RX0, .code yX0_copyFrom cX0_copyFrom 3 none, .fieldLink RX0 9 "StuckRods$Board" "fives" "[I", .fieldLink RX0 15 "StuckRods$Board" "ones" "[I", .fieldLink RX0 18 "StuckRods$Board" "stuck" "[I", .fieldLink RX0 21 "StuckRods$Board" "loan" "[I", .fieldLink RX0 24 "StuckRods$Board" "moved" "[I", .fieldLink RX0 27 "StuckRods$Board" "borrowed" "[I", .fieldLink RX0 30 "StuckRods$Board" "setting" "I"] ++ wsX10 ++ wsX00)
def wsX1_restore : List Cond := .code yX1_restore cX1_restore 2 none :: ([.fieldLink RX1 21 "StuckRods$History" "size" "I", .fieldLink RX1 11 "StuckRods$History" "slots" "[LStuckRods$Board;", .fieldLink RX1 17 "StuckRods$History" "oldest" "I", .methodLink RX1 25 yX0_copyFrom, .instanceMethod yX0_copyFrom, .selects RX0 yX0_copyFrom yX0_copyFrom, .initialized RX0, .code yX0_copyFrom cX0_copyFrom 3 none, .fieldLink RX0 9 "StuckRods$Board" "fives" "[I", .fieldLink RX0 15 "StuckRods$Board" "ones" "[I", .fieldLink RX0 18 "StuckRods$Board" "stuck" "[I", .fieldLink RX0 21 "StuckRods$Board" "loan" "[I", .fieldLink RX0 24 "StuckRods$Board" "moved" "[I", .fieldLink RX0 27 "StuckRods$Board" "borrowed" "[I", .fieldLink RX0 30 "StuckRods$Board" "setting" "I"] ++ wsX10 ++ wsX00)
def wsX2_init : List Cond := .code yX2_init cX2_init 1 none :: ([.methodLink RX2 3 objectInit, .instanceMethod objectInit, .code objectInit ⟨#[0xb1]⟩ 1 none, .arrayClass .int, .fieldLink RX2 9 "StuckRods$SumText" "codes" "[I", .fieldLink RX2 15 "StuckRods$SumText" "length" "I"] ++ wsX20)
def wsX3_isSign : List Cond := .code yX3_isSign cX3_isSign 1 (some .boolean) :: ([])
def wsX3_isDigit : List Cond := .code yX3_isDigit cX3_isDigit 1 (some .boolean) :: ([])
def wsX2_firstWrong : List Cond := .code yX2_firstWrong cX2_firstWrong 4 (some .int) :: ([.fieldLink RX2 15 "StuckRods$SumText" "length" "I", .fieldLink RX2 9 "StuckRods$SumText" "codes" "[I", .static yX3_isSign, .initialized RX3, .code yX3_isSign cX3_isSign 1 (some .boolean), .static yX3_isDigit, .code yX3_isDigit cX3_isDigit 1 (some .boolean)] ++ wsX20)
def wsX2_isCompleteSum : List Cond := .code yX2_isCompleteSum cX2_isCompleteSum 1 (some .boolean) :: ([.fieldLink RX2 15 "StuckRods$SumText" "length" "I", .fieldLink RX2 9 "StuckRods$SumText" "codes" "[I", .methodLink RX2 26 yX2_firstWrong, .instanceMethod yX2_firstWrong, .selects RX2 yX2_firstWrong yX2_firstWrong, .initialized RX2, .code yX2_firstWrong cX2_firstWrong 4 (some .int), .static yX3_isSign, .initialized RX3, .code yX3_isSign cX3_isSign 1 (some .boolean), .static yX3_isDigit, .code yX3_isDigit cX3_isDigit 1 (some .boolean)] ++ wsX20)
def wsX2_digitsBehind : List Cond := .code yX2_digitsBehind cX2_digitsBehind 4 (some .int) :: ([.fieldLink RX2 15 "StuckRods$SumText" "length" "I", .fieldLink RX2 9 "StuckRods$SumText" "codes" "[I", .static yX3_isDigit, .initialized RX3, .code yX3_isDigit cX3_isDigit 1 (some .boolean)] ++ wsX20)
def wsX3_init_r1 : List Cond := [Cond.methodLink RX3 3 objectInit, Cond.instanceMethod objectInit, Cond.code objectInit ⟨#[0xb1]⟩ 1 none, Cond.classLink RX3 9 RX0, Cond.instantiable RX0 7, Cond.initialized RX0, Cond.fieldLink RX3 12 "StuckRods" "board" "LStuckRods$Board;", Cond.classLink RX3 16 RX1, Cond.instantiable RX1 3, Cond.initialized RX1, Cond.fieldLink RX3 19 "StuckRods" "history" "LStuckRods$History;", Cond.classLink RX3 23 RX2, Cond.instantiable RX2 2, Cond.initialized RX2, Cond.fieldLink RX3 26 "StuckRods" "text" "LStuckRods$SumText;", Cond.methodLink RX3 11 yX0_init, Cond.instanceMethod yX0_init, Cond.code yX0_init cX0_init 1 none, Cond.methodLink RX0 3 objectInit, Cond.arrayClass .int, Cond.fieldLink RX0 9 "StuckRods$Board" "fives" "[I", Cond.fieldLink RX0 15 "StuckRods$Board" "ones" "[I", Cond.fieldLink RX0 18 "StuckRods$Board" "stuck" "[I", Cond.fieldLink RX0 21 "StuckRods$Board" "loan" "[I"]
def wsX3_init_r2 : List Cond := [Cond.fieldLink RX0 24 "StuckRods$Board" "moved" "[I", Cond.fieldLink RX0 27 "StuckRods$Board" "borrowed" "[I", Cond.fieldLink RX0 30 "StuckRods$Board" "setting" "I", Cond.methodLink RX3 18 yX1_init, Cond.instanceMethod yX1_init, Cond.code yX1_init cX1_init 2 none, Cond.methodLink RX1 3 objectInit, Cond.classLink RX1 9 RX0, Cond.fieldLink RX1 11 "StuckRods$History" "slots" "[LStuckRods$Board;", Cond.fieldLink RX1 17 "StuckRods$History" "oldest" "I", Cond.fieldLink RX1 21 "StuckRods$History" "size" "I", Cond.methodLink RX1 24 yX0_init, Cond.methodLink RX3 25 yX2_init, Cond.instanceMethod yX2_init, Cond.code yX2_init cX2_init 1 none, Cond.methodLink RX2 3 objectInit, Cond.fieldLink RX2 9 "StuckRods$SumText" "codes" "[I", Cond.fieldLink RX2 15 "StuckRods$SumText" "length" "I"]
def wsX3_init : List Cond := .code yX3_init cX3_init 1 none :: ((wsX3_init_r1 ++ wsX3_init_r2) ++ wsX00 ++ wsX30 ++ wsX10 ++ wsX20)
def wsX3_checkRod : List Cond := .code yX3_checkRod cX3_checkRod 1 none :: ([.classLink RX3 210 "java/lang/IndexOutOfBoundsException", .initialized "java/lang/IndexOutOfBoundsException"] ++ (vx_atS RX3 214 "java/lang/IndexOutOfBoundsException" ["java/lang/RuntimeException", "java/lang/Exception"]).filter goodWord)
def wsX3_checkRange : List Cond := .code yX3_checkRange cX3_checkRange 3 none :: ([.classLink RX3 101 "java/lang/IllegalArgumentException", .initialized "java/lang/IllegalArgumentException"] ++ (vx_atS RX3 105 "java/lang/IllegalArgumentException" ["java/lang/RuntimeException", "java/lang/Exception"]).filter goodWord)
def wsX3_move_r1 : List Cond := [Cond.classLink RX3 42 "java/lang/IllegalStateException", Cond.initialized "java/lang/IllegalStateException", Cond.fieldLink RX3 12 "StuckRods" "board" "LStuckRods$Board;", Cond.fieldLink RX3 19 "StuckRods" "history" "LStuckRods$History;", Cond.methodLink RX3 30 yX3_checkRod, Cond.static yX3_checkRod, Cond.initialized RX3, Cond.code yX3_checkRod cX3_checkRod 1 none, Cond.classLink RX3 210 "java/lang/IndexOutOfBoundsException", Cond.initialized "java/lang/IndexOutOfBoundsException", Cond.methodLink RX3 34 yX3_checkRange, Cond.static yX3_checkRange, Cond.code yX3_checkRange cX3_checkRange 3 none, Cond.classLink RX3 101 "java/lang/IllegalArgumentException", Cond.initialized "java/lang/IllegalArgumentException", Cond.methodLink RX3 38 yX0_movesBy, Cond.instanceMethod yX0_movesBy, Cond.selects RX0 yX0_movesBy yX0_movesBy, Cond.initialized RX0, Cond.code yX0_movesBy cX0_movesBy 6 (some .int), Cond.fieldLink RX0 9 "StuckRods$Board" "fives" "[I", Cond.methodLink RX0 34 Lib.Math.abs.name, Cond.static Lib.Math.abs.name, Cond.initialized "java/lang/Math"]
def wsX3_move_r2 : List Cond := [Cond.code Lib.Math.abs.name Lib.Math.abs.code 1 (some .int), Cond.fieldLink RX0 15 "StuckRods$Board" "ones" "[I", Cond.fieldLink RX0 18 "StuckRods$Board" "stuck" "[I", Cond.methodLink RX3 49 yX1_keep, Cond.instanceMethod yX1_keep, Cond.selects RX1 yX1_keep yX1_keep, Cond.initialized RX1, Cond.code yX1_keep cX1_keep 2 none, Cond.fieldLink RX1 21 "StuckRods$History" "size" "I", Cond.fieldLink RX1 17 "StuckRods$History" "oldest" "I", Cond.fieldLink RX1 11 "StuckRods$History" "slots" "[LStuckRods$Board;", Cond.methodLink RX1 25 yX0_copyFrom, Cond.instanceMethod yX0_copyFrom, Cond.selects RX0 yX0_copyFrom yX0_copyFrom, Cond.code yX0_copyFrom cX0_copyFrom 3 none, Cond.fieldLink RX0 21 "StuckRods$Board" "loan" "[I", Cond.fieldLink RX0 24 "StuckRods$Board" "moved" "[I", Cond.fieldLink RX0 27 "StuckRods$Board" "borrowed" "[I", Cond.fieldLink RX0 30 "StuckRods$Board" "setting" "I", Cond.methodLink RX3 53 yX0_place, Cond.instanceMethod yX0_place, Cond.selects RX0 yX0_place yX0_place, Cond.code yX0_place cX0_place 5 none]
def wsX3_move : List Cond := .code yX3_move cX3_move 5 (some .int) :: ((wsX3_move_r1 ++ wsX3_move_r2) ++ wsX30 ++ wsX00 ++ wsX10 ++ (vx_atS RX3 46 "java/lang/IllegalStateException" ["java/lang/RuntimeException", "java/lang/Exception"]).filter goodWord ++ (vx_atS RX3 214 "java/lang/IndexOutOfBoundsException" ["java/lang/RuntimeException", "java/lang/Exception"]).filter goodWord ++ (vx_atS RX3 105 "java/lang/IllegalArgumentException" ["java/lang/RuntimeException", "java/lang/Exception"]).filter goodWord)
def wsX3_stick_r1 : List Cond := [Cond.fieldLink RX3 19 "StuckRods" "history" "LStuckRods$History;", Cond.fieldLink RX3 12 "StuckRods" "board" "LStuckRods$Board;", Cond.fieldLink RX3 57 "StuckRods$Board" "stuck" "[I", Cond.methodLink RX3 30 yX3_checkRod, Cond.static yX3_checkRod, Cond.initialized RX3, Cond.code yX3_checkRod cX3_checkRod 1 none, Cond.classLink RX3 210 "java/lang/IndexOutOfBoundsException", Cond.initialized "java/lang/IndexOutOfBoundsException", Cond.methodLink RX3 34 yX3_checkRange, Cond.static yX3_checkRange, Cond.code yX3_checkRange cX3_checkRange 3 none, Cond.classLink RX3 101 "java/lang/IllegalArgumentException", Cond.initialized "java/lang/IllegalArgumentException", Cond.methodLink RX3 49 yX1_keep, Cond.instanceMethod yX1_keep, Cond.selects RX1 yX1_keep yX1_keep, Cond.initialized RX1, Cond.code yX1_keep cX1_keep 2 none, Cond.fieldLink RX1 21 "StuckRods$History" "size" "I", Cond.fieldLink RX1 17 "StuckRods$History" "oldest" "I", Cond.fieldLink RX1 11 "StuckRods$History" "slots" "[LStuckRods$Board;", Cond.methodLink RX1 25 yX0_copyFrom, Cond.instanceMethod yX0_copyFrom]
def wsX3_stick_r2 : List Cond := [Cond.selects RX0 yX0_copyFrom yX0_copyFrom, Cond.initialized RX0, Cond.code yX0_copyFrom cX0_copyFrom 3 none, Cond.fieldLink RX0 9 "StuckRods$Board" "fives" "[I", Cond.fieldLink RX0 15 "StuckRods$Board" "ones" "[I", Cond.fieldLink RX0 18 "StuckRods$Board" "stuck" "[I", Cond.fieldLink RX0 21 "StuckRods$Board" "loan" "[I", Cond.fieldLink RX0 24 "StuckRods$Board" "moved" "[I", Cond.fieldLink RX0 27 "StuckRods$Board" "borrowed" "[I", Cond.fieldLink RX0 30 "StuckRods$Board" "setting" "I"]
def wsX3_stick : List Cond := .code yX3_stick cX3_stick 4 (some .int) :: ((wsX3_stick_r1 ++ wsX3_stick_r2) ++ wsX30 ++ wsX00 ++ wsX10 ++ (vx_atS RX3 214 "java/lang/IndexOutOfBoundsException" ["java/lang/RuntimeException", "java/lang/Exception"]).filter goodWord ++ (vx_atS RX3 105 "java/lang/IllegalArgumentException" ["java/lang/RuntimeException", "java/lang/Exception"]).filter goodWord)
def wsX3_set_r1 : List Cond := [Cond.fieldLink RX3 19 "StuckRods" "history" "LStuckRods$History;", Cond.fieldLink RX3 12 "StuckRods" "board" "LStuckRods$Board;", Cond.fieldLink RX3 61 "StuckRods$Board" "setting" "I", Cond.methodLink RX3 34 yX3_checkRange, Cond.static yX3_checkRange, Cond.initialized RX3, Cond.code yX3_checkRange cX3_checkRange 3 none, Cond.classLink RX3 101 "java/lang/IllegalArgumentException", Cond.initialized "java/lang/IllegalArgumentException", Cond.methodLink RX3 49 yX1_keep, Cond.instanceMethod yX1_keep, Cond.selects RX1 yX1_keep yX1_keep, Cond.initialized RX1, Cond.code yX1_keep cX1_keep 2 none, Cond.fieldLink RX1 21 "StuckRods$History" "size" "I", Cond.fieldLink RX1 17 "StuckRods$History" "oldest" "I", Cond.fieldLink RX1 11 "StuckRods$History" "slots" "[LStuckRods$Board;", Cond.methodLink RX1 25 yX0_copyFrom, Cond.instanceMethod yX0_copyFrom, Cond.selects RX0 yX0_copyFrom yX0_copyFrom, Cond.initialized RX0, Cond.code yX0_copyFrom cX0_copyFrom 3 none, Cond.fieldLink RX0 9 "StuckRods$Board" "fives" "[I", Cond.fieldLink RX0 15 "StuckRods$Board" "ones" "[I"]
def wsX3_set_r2 : List Cond := [Cond.fieldLink RX0 18 "StuckRods$Board" "stuck" "[I", Cond.fieldLink RX0 21 "StuckRods$Board" "loan" "[I", Cond.fieldLink RX0 24 "StuckRods$Board" "moved" "[I", Cond.fieldLink RX0 27 "StuckRods$Board" "borrowed" "[I", Cond.fieldLink RX0 30 "StuckRods$Board" "setting" "I"]
def wsX3_set : List Cond := .code yX3_set cX3_set 3 (some .int) :: ((wsX3_set_r1 ++ wsX3_set_r2) ++ wsX30 ++ wsX00 ++ wsX10 ++ (vx_atS RX3 105 "java/lang/IllegalArgumentException" ["java/lang/RuntimeException", "java/lang/Exception"]).filter goodWord)
def wsX3_changeOrThrow_r1 : List Cond := [Cond.classLink RX3 42 "java/lang/IllegalStateException", Cond.initialized "java/lang/IllegalStateException", Cond.fieldLink RX3 12 "StuckRods" "board" "LStuckRods$Board;", Cond.fieldLink RX3 19 "StuckRods" "history" "LStuckRods$History;", Cond.methodLink RX3 72 yX0_change, Cond.instanceMethod yX0_change, Cond.selects RX0 yX0_change yX0_change, Cond.initialized RX0, Cond.code yX0_change cX0_change 6 (some .int), Cond.methodLink RX0 48 yX0_shown, Cond.instanceMethod yX0_shown, Cond.selects RX0 yX0_shown yX0_shown, Cond.code yX0_shown cX0_shown 2 (some .int), Cond.fieldLink RX0 9 "StuckRods$Board" "fives" "[I", Cond.fieldLink RX0 15 "StuckRods$Board" "ones" "[I", Cond.methodLink RX0 51 yX0_turn, Cond.instanceMethod yX0_turn, Cond.selects RX0 yX0_turn yX0_turn, Cond.code yX0_turn cX0_turn 8 (some .int), Cond.methodLink RX0 40 yX0_movesBy, Cond.instanceMethod yX0_movesBy, Cond.selects RX0 yX0_movesBy yX0_movesBy, Cond.code yX0_movesBy cX0_movesBy 6 (some .int), Cond.methodLink RX0 34 Lib.Math.abs.name]
def wsX3_changeOrThrow_r2 : List Cond := [Cond.static Lib.Math.abs.name, Cond.initialized "java/lang/Math", Cond.code Lib.Math.abs.name Lib.Math.abs.code 1 (some .int), Cond.fieldLink RX0 18 "StuckRods$Board" "stuck" "[I", Cond.methodLink RX0 44 yX0_place, Cond.instanceMethod yX0_place, Cond.selects RX0 yX0_place yX0_place, Cond.code yX0_place cX0_place 5 none, Cond.fieldLink RX0 24 "StuckRods$Board" "moved" "[I", Cond.methodLink RX0 55 yX0_turnAndCarry, Cond.instanceMethod yX0_turnAndCarry, Cond.selects RX0 yX0_turnAndCarry yX0_turnAndCarry, Cond.code yX0_turnAndCarry cX0_turnAndCarry 8 (some .int), Cond.methodLink RX0 59 yX0_borrow, Cond.instanceMethod yX0_borrow, Cond.selects RX0 yX0_borrow yX0_borrow, Cond.code yX0_borrow cX0_borrow 5 (some .boolean), Cond.fieldLink RX0 21 "StuckRods$Board" "loan" "[I", Cond.fieldLink RX0 30 "StuckRods$Board" "setting" "I", Cond.fieldLink RX0 27 "StuckRods$Board" "borrowed" "[I", Cond.methodLink RX3 49 yX1_keep, Cond.instanceMethod yX1_keep, Cond.selects RX1 yX1_keep yX1_keep, Cond.initialized RX1]
def wsX3_changeOrThrow_r3 : List Cond := [Cond.code yX1_keep cX1_keep 2 none, Cond.fieldLink RX1 21 "StuckRods$History" "size" "I", Cond.fieldLink RX1 17 "StuckRods$History" "oldest" "I", Cond.fieldLink RX1 11 "StuckRods$History" "slots" "[LStuckRods$Board;", Cond.methodLink RX1 25 yX0_copyFrom, Cond.instanceMethod yX0_copyFrom, Cond.selects RX0 yX0_copyFrom yX0_copyFrom, Cond.code yX0_copyFrom cX0_copyFrom 3 none]
def wsX3_changeOrThrow : List Cond := .code yX3_changeOrThrow cX3_changeOrThrow 3 (some .int) :: ((wsX3_changeOrThrow_r1 ++ (wsX3_changeOrThrow_r2 ++ wsX3_changeOrThrow_r3)) ++ wsX30 ++ wsX00 ++ wsX10 ++ (vx_atS RX3 46 "java/lang/IllegalStateException" ["java/lang/RuntimeException", "java/lang/Exception"]).filter goodWord)
def wsX3_add_r1 : List Cond := [Cond.methodLink RX3 30 yX3_checkRod, Cond.static yX3_checkRod, Cond.initialized RX3, Cond.code yX3_checkRod cX3_checkRod 1 none, Cond.classLink RX3 210 "java/lang/IndexOutOfBoundsException", Cond.initialized "java/lang/IndexOutOfBoundsException", Cond.methodLink RX3 34 yX3_checkRange, Cond.static yX3_checkRange, Cond.code yX3_checkRange cX3_checkRange 3 none, Cond.classLink RX3 101 "java/lang/IllegalArgumentException", Cond.initialized "java/lang/IllegalArgumentException", Cond.methodLink RX3 65 yX3_changeOrThrow, Cond.instanceMethod yX3_changeOrThrow, Cond.selects RX3 yX3_changeOrThrow yX3_changeOrThrow, Cond.code yX3_changeOrThrow cX3_changeOrThrow 3 (some .int), Cond.classLink RX3 42 "java/lang/IllegalStateException", Cond.initialized "java/lang/IllegalStateException", Cond.fieldLink RX3 12 "StuckRods" "board" "LStuckRods$Board;", Cond.fieldLink RX3 19 "StuckRods" "history" "LStuckRods$History;", Cond.methodLink RX3 72 yX0_change, Cond.instanceMethod yX0_change, Cond.selects RX0 yX0_change yX0_change, Cond.initialized RX0, Cond.code yX0_change cX0_change 6 (some .int)]
def wsX3_add_r2 : List Cond := [Cond.methodLink RX0 48 yX0_shown, Cond.instanceMethod yX0_shown, Cond.selects RX0 yX0_shown yX0_shown, Cond.code yX0_shown cX0_shown 2 (some .int), Cond.fieldLink RX0 9 "StuckRods$Board" "fives" "[I", Cond.fieldLink RX0 15 "StuckRods$Board" "ones" "[I", Cond.methodLink RX0 51 yX0_turn, Cond.instanceMethod yX0_turn, Cond.selects RX0 yX0_turn yX0_turn, Cond.code yX0_turn cX0_turn 8 (some .int), Cond.methodLink RX0 40 yX0_movesBy, Cond.instanceMethod yX0_movesBy, Cond.selects RX0 yX0_movesBy yX0_movesBy, Cond.code yX0_movesBy cX0_movesBy 6 (some .int), Cond.methodLink RX0 34 Lib.Math.abs.name, Cond.static Lib.Math.abs.name, Cond.initialized "java/lang/Math", Cond.code Lib.Math.abs.name Lib.Math.abs.code 1 (some .int), Cond.fieldLink RX0 18 "StuckRods$Board" "stuck" "[I", Cond.methodLink RX0 44 yX0_place, Cond.instanceMethod yX0_place, Cond.selects RX0 yX0_place yX0_place, Cond.code yX0_place cX0_place 5 none, Cond.fieldLink RX0 24 "StuckRods$Board" "moved" "[I"]
def wsX3_add_r3 : List Cond := [Cond.methodLink RX0 55 yX0_turnAndCarry, Cond.instanceMethod yX0_turnAndCarry, Cond.selects RX0 yX0_turnAndCarry yX0_turnAndCarry, Cond.code yX0_turnAndCarry cX0_turnAndCarry 8 (some .int), Cond.methodLink RX0 59 yX0_borrow, Cond.instanceMethod yX0_borrow, Cond.selects RX0 yX0_borrow yX0_borrow, Cond.code yX0_borrow cX0_borrow 5 (some .boolean), Cond.fieldLink RX0 21 "StuckRods$Board" "loan" "[I", Cond.fieldLink RX0 30 "StuckRods$Board" "setting" "I", Cond.fieldLink RX0 27 "StuckRods$Board" "borrowed" "[I", Cond.methodLink RX3 49 yX1_keep, Cond.instanceMethod yX1_keep, Cond.selects RX1 yX1_keep yX1_keep, Cond.initialized RX1, Cond.code yX1_keep cX1_keep 2 none, Cond.fieldLink RX1 21 "StuckRods$History" "size" "I", Cond.fieldLink RX1 17 "StuckRods$History" "oldest" "I", Cond.fieldLink RX1 11 "StuckRods$History" "slots" "[LStuckRods$Board;", Cond.methodLink RX1 25 yX0_copyFrom, Cond.instanceMethod yX0_copyFrom, Cond.selects RX0 yX0_copyFrom yX0_copyFrom, Cond.code yX0_copyFrom cX0_copyFrom 3 none]
def wsX3_add : List Cond := .code yX3_add cX3_add 3 (some .int) :: ((wsX3_add_r1 ++ (wsX3_add_r2 ++ wsX3_add_r3)) ++ wsX30 ++ wsX00 ++ wsX10 ++ (vx_atS RX3 214 "java/lang/IndexOutOfBoundsException" ["java/lang/RuntimeException", "java/lang/Exception"]).filter goodWord ++ (vx_atS RX3 105 "java/lang/IllegalArgumentException" ["java/lang/RuntimeException", "java/lang/Exception"]).filter goodWord ++ (vx_atS RX3 46 "java/lang/IllegalStateException" ["java/lang/RuntimeException", "java/lang/Exception"]).filter goodWord)
def wsX3_less_r1 : List Cond := [Cond.methodLink RX3 30 yX3_checkRod, Cond.static yX3_checkRod, Cond.initialized RX3, Cond.code yX3_checkRod cX3_checkRod 1 none, Cond.classLink RX3 210 "java/lang/IndexOutOfBoundsException", Cond.initialized "java/lang/IndexOutOfBoundsException", Cond.methodLink RX3 34 yX3_checkRange, Cond.static yX3_checkRange, Cond.code yX3_checkRange cX3_checkRange 3 none, Cond.classLink RX3 101 "java/lang/IllegalArgumentException", Cond.initialized "java/lang/IllegalArgumentException", Cond.methodLink RX3 65 yX3_changeOrThrow, Cond.instanceMethod yX3_changeOrThrow, Cond.selects RX3 yX3_changeOrThrow yX3_changeOrThrow, Cond.code yX3_changeOrThrow cX3_changeOrThrow 3 (some .int), Cond.classLink RX3 42 "java/lang/IllegalStateException", Cond.initialized "java/lang/IllegalStateException", Cond.fieldLink RX3 12 "StuckRods" "board" "LStuckRods$Board;", Cond.fieldLink RX3 19 "StuckRods" "history" "LStuckRods$History;", Cond.methodLink RX3 72 yX0_change, Cond.instanceMethod yX0_change, Cond.selects RX0 yX0_change yX0_change, Cond.initialized RX0, Cond.code yX0_change cX0_change 6 (some .int)]
def wsX3_less_r2 : List Cond := [Cond.methodLink RX0 48 yX0_shown, Cond.instanceMethod yX0_shown, Cond.selects RX0 yX0_shown yX0_shown, Cond.code yX0_shown cX0_shown 2 (some .int), Cond.fieldLink RX0 9 "StuckRods$Board" "fives" "[I", Cond.fieldLink RX0 15 "StuckRods$Board" "ones" "[I", Cond.methodLink RX0 51 yX0_turn, Cond.instanceMethod yX0_turn, Cond.selects RX0 yX0_turn yX0_turn, Cond.code yX0_turn cX0_turn 8 (some .int), Cond.methodLink RX0 40 yX0_movesBy, Cond.instanceMethod yX0_movesBy, Cond.selects RX0 yX0_movesBy yX0_movesBy, Cond.code yX0_movesBy cX0_movesBy 6 (some .int), Cond.methodLink RX0 34 Lib.Math.abs.name, Cond.static Lib.Math.abs.name, Cond.initialized "java/lang/Math", Cond.code Lib.Math.abs.name Lib.Math.abs.code 1 (some .int), Cond.fieldLink RX0 18 "StuckRods$Board" "stuck" "[I", Cond.methodLink RX0 44 yX0_place, Cond.instanceMethod yX0_place, Cond.selects RX0 yX0_place yX0_place, Cond.code yX0_place cX0_place 5 none, Cond.fieldLink RX0 24 "StuckRods$Board" "moved" "[I"]
def wsX3_less_r3 : List Cond := [Cond.methodLink RX0 55 yX0_turnAndCarry, Cond.instanceMethod yX0_turnAndCarry, Cond.selects RX0 yX0_turnAndCarry yX0_turnAndCarry, Cond.code yX0_turnAndCarry cX0_turnAndCarry 8 (some .int), Cond.methodLink RX0 59 yX0_borrow, Cond.instanceMethod yX0_borrow, Cond.selects RX0 yX0_borrow yX0_borrow, Cond.code yX0_borrow cX0_borrow 5 (some .boolean), Cond.fieldLink RX0 21 "StuckRods$Board" "loan" "[I", Cond.fieldLink RX0 30 "StuckRods$Board" "setting" "I", Cond.fieldLink RX0 27 "StuckRods$Board" "borrowed" "[I", Cond.methodLink RX3 49 yX1_keep, Cond.instanceMethod yX1_keep, Cond.selects RX1 yX1_keep yX1_keep, Cond.initialized RX1, Cond.code yX1_keep cX1_keep 2 none, Cond.fieldLink RX1 21 "StuckRods$History" "size" "I", Cond.fieldLink RX1 17 "StuckRods$History" "oldest" "I", Cond.fieldLink RX1 11 "StuckRods$History" "slots" "[LStuckRods$Board;", Cond.methodLink RX1 25 yX0_copyFrom, Cond.instanceMethod yX0_copyFrom, Cond.selects RX0 yX0_copyFrom yX0_copyFrom, Cond.code yX0_copyFrom cX0_copyFrom 3 none]
def wsX3_less : List Cond := .code yX3_less cX3_less 3 (some .int) :: ((wsX3_less_r1 ++ (wsX3_less_r2 ++ wsX3_less_r3)) ++ wsX30 ++ wsX00 ++ wsX10 ++ (vx_atS RX3 214 "java/lang/IndexOutOfBoundsException" ["java/lang/RuntimeException", "java/lang/Exception"]).filter goodWord ++ (vx_atS RX3 105 "java/lang/IllegalArgumentException" ["java/lang/RuntimeException", "java/lang/Exception"]).filter goodWord ++ (vx_atS RX3 46 "java/lang/IllegalStateException" ["java/lang/RuntimeException", "java/lang/Exception"]).filter goodWord)
def wsX3_pay_r1 : List Cond := [Cond.classLink RX3 42 "java/lang/IllegalStateException", Cond.initialized "java/lang/IllegalStateException", Cond.fieldLink RX3 12 "StuckRods" "board" "LStuckRods$Board;", Cond.fieldLink RX3 69 "StuckRods$Board" "loan" "[I", Cond.fieldLink RX3 19 "StuckRods" "history" "LStuckRods$History;", Cond.methodLink RX3 30 yX3_checkRod, Cond.static yX3_checkRod, Cond.initialized RX3, Cond.code yX3_checkRod cX3_checkRod 1 none, Cond.classLink RX3 210 "java/lang/IndexOutOfBoundsException", Cond.initialized "java/lang/IndexOutOfBoundsException", Cond.methodLink RX3 72 yX0_change, Cond.instanceMethod yX0_change, Cond.selects RX0 yX0_change yX0_change, Cond.initialized RX0, Cond.code yX0_change cX0_change 6 (some .int), Cond.methodLink RX0 48 yX0_shown, Cond.instanceMethod yX0_shown, Cond.selects RX0 yX0_shown yX0_shown, Cond.code yX0_shown cX0_shown 2 (some .int), Cond.fieldLink RX0 9 "StuckRods$Board" "fives" "[I", Cond.fieldLink RX0 15 "StuckRods$Board" "ones" "[I", Cond.methodLink RX0 51 yX0_turn, Cond.instanceMethod yX0_turn]
def wsX3_pay_r2 : List Cond := [Cond.selects RX0 yX0_turn yX0_turn, Cond.code yX0_turn cX0_turn 8 (some .int), Cond.methodLink RX0 40 yX0_movesBy, Cond.instanceMethod yX0_movesBy, Cond.selects RX0 yX0_movesBy yX0_movesBy, Cond.code yX0_movesBy cX0_movesBy 6 (some .int), Cond.methodLink RX0 34 Lib.Math.abs.name, Cond.static Lib.Math.abs.name, Cond.initialized "java/lang/Math", Cond.code Lib.Math.abs.name Lib.Math.abs.code 1 (some .int), Cond.fieldLink RX0 18 "StuckRods$Board" "stuck" "[I", Cond.methodLink RX0 44 yX0_place, Cond.instanceMethod yX0_place, Cond.selects RX0 yX0_place yX0_place, Cond.code yX0_place cX0_place 5 none, Cond.fieldLink RX0 24 "StuckRods$Board" "moved" "[I", Cond.methodLink RX0 55 yX0_turnAndCarry, Cond.instanceMethod yX0_turnAndCarry, Cond.selects RX0 yX0_turnAndCarry yX0_turnAndCarry, Cond.code yX0_turnAndCarry cX0_turnAndCarry 8 (some .int), Cond.methodLink RX0 59 yX0_borrow, Cond.instanceMethod yX0_borrow, Cond.selects RX0 yX0_borrow yX0_borrow, Cond.code yX0_borrow cX0_borrow 5 (some .boolean)]
def wsX3_pay_r3 : List Cond := [Cond.fieldLink RX0 21 "StuckRods$Board" "loan" "[I", Cond.fieldLink RX0 30 "StuckRods$Board" "setting" "I", Cond.fieldLink RX0 27 "StuckRods$Board" "borrowed" "[I", Cond.methodLink RX3 49 yX1_keep, Cond.instanceMethod yX1_keep, Cond.selects RX1 yX1_keep yX1_keep, Cond.initialized RX1, Cond.code yX1_keep cX1_keep 2 none, Cond.fieldLink RX1 21 "StuckRods$History" "size" "I", Cond.fieldLink RX1 17 "StuckRods$History" "oldest" "I", Cond.fieldLink RX1 11 "StuckRods$History" "slots" "[LStuckRods$Board;", Cond.methodLink RX1 25 yX0_copyFrom, Cond.instanceMethod yX0_copyFrom, Cond.selects RX0 yX0_copyFrom yX0_copyFrom, Cond.code yX0_copyFrom cX0_copyFrom 3 none, Cond.methodLink RX3 78 yX0_payIfPossible, Cond.instanceMethod yX0_payIfPossible, Cond.selects RX0 yX0_payIfPossible yX0_payIfPossible, Cond.code yX0_payIfPossible cX0_payIfPossible 3 (some .int), Cond.methodLink RX0 63 yX0_change]
def wsX3_pay : List Cond := .code yX3_pay cX3_pay 2 (some .int) :: ((wsX3_pay_r1 ++ (wsX3_pay_r2 ++ wsX3_pay_r3)) ++ wsX30 ++ wsX00 ++ wsX10 ++ (vx_atS RX3 46 "java/lang/IllegalStateException" ["java/lang/RuntimeException", "java/lang/Exception"]).filter goodWord ++ (vx_atS RX3 214 "java/lang/IndexOutOfBoundsException" ["java/lang/RuntimeException", "java/lang/Exception"]).filter goodWord)
def wsX3_tidy_r1 : List Cond := [Cond.fieldLink RX3 19 "StuckRods" "history" "LStuckRods$History;", Cond.fieldLink RX3 12 "StuckRods" "board" "LStuckRods$Board;", Cond.methodLink RX3 49 yX1_keep, Cond.instanceMethod yX1_keep, Cond.selects RX1 yX1_keep yX1_keep, Cond.initialized RX1, Cond.code yX1_keep cX1_keep 2 none, Cond.fieldLink RX1 21 "StuckRods$History" "size" "I", Cond.fieldLink RX1 17 "StuckRods$History" "oldest" "I", Cond.fieldLink RX1 11 "StuckRods$History" "slots" "[LStuckRods$Board;", Cond.methodLink RX1 25 yX0_copyFrom, Cond.instanceMethod yX0_copyFrom, Cond.selects RX0 yX0_copyFrom yX0_copyFrom, Cond.initialized RX0, Cond.code yX0_copyFrom cX0_copyFrom 3 none, Cond.fieldLink RX0 9 "StuckRods$Board" "fives" "[I", Cond.fieldLink RX0 15 "StuckRods$Board" "ones" "[I", Cond.fieldLink RX0 18 "StuckRods$Board" "stuck" "[I", Cond.fieldLink RX0 21 "StuckRods$Board" "loan" "[I", Cond.fieldLink RX0 24 "StuckRods$Board" "moved" "[I", Cond.fieldLink RX0 27 "StuckRods$Board" "borrowed" "[I", Cond.fieldLink RX0 30 "StuckRods$Board" "setting" "I", Cond.methodLink RX3 78 yX0_payIfPossible, Cond.instanceMethod yX0_payIfPossible]
def wsX3_tidy_r2 : List Cond := [Cond.selects RX0 yX0_payIfPossible yX0_payIfPossible, Cond.code yX0_payIfPossible cX0_payIfPossible 3 (some .int), Cond.methodLink RX0 63 yX0_change, Cond.instanceMethod yX0_change, Cond.selects RX0 yX0_change yX0_change, Cond.code yX0_change cX0_change 6 (some .int), Cond.methodLink RX0 48 yX0_shown, Cond.instanceMethod yX0_shown, Cond.selects RX0 yX0_shown yX0_shown, Cond.code yX0_shown cX0_shown 2 (some .int), Cond.methodLink RX0 51 yX0_turn, Cond.instanceMethod yX0_turn, Cond.selects RX0 yX0_turn yX0_turn, Cond.code yX0_turn cX0_turn 8 (some .int), Cond.methodLink RX0 40 yX0_movesBy, Cond.instanceMethod yX0_movesBy, Cond.selects RX0 yX0_movesBy yX0_movesBy, Cond.code yX0_movesBy cX0_movesBy 6 (some .int), Cond.methodLink RX0 34 Lib.Math.abs.name, Cond.static Lib.Math.abs.name, Cond.initialized "java/lang/Math", Cond.code Lib.Math.abs.name Lib.Math.abs.code 1 (some .int), Cond.methodLink RX0 44 yX0_place, Cond.instanceMethod yX0_place]
def wsX3_tidy_r3 : List Cond := [Cond.selects RX0 yX0_place yX0_place, Cond.code yX0_place cX0_place 5 none, Cond.methodLink RX0 55 yX0_turnAndCarry, Cond.instanceMethod yX0_turnAndCarry, Cond.selects RX0 yX0_turnAndCarry yX0_turnAndCarry, Cond.code yX0_turnAndCarry cX0_turnAndCarry 8 (some .int), Cond.methodLink RX0 59 yX0_borrow, Cond.instanceMethod yX0_borrow, Cond.selects RX0 yX0_borrow yX0_borrow, Cond.code yX0_borrow cX0_borrow 5 (some .boolean), Cond.methodLink RX3 82 yX0_orderIfPossible, Cond.instanceMethod yX0_orderIfPossible, Cond.selects RX0 yX0_orderIfPossible yX0_orderIfPossible, Cond.code yX0_orderIfPossible cX0_orderIfPossible 3 (some .int)]
def wsX3_tidy : List Cond := .code yX3_tidy cX3_tidy 3 (some .int) :: ((wsX3_tidy_r1 ++ (wsX3_tidy_r2 ++ wsX3_tidy_r3)) ++ wsX30 ++ wsX10 ++ wsX00)
def wsX3_append : List Cond := .code yX3_append cX3_append 2 (some .int) :: ([.classLink RX3 42 "java/lang/IllegalStateException", .initialized "java/lang/IllegalStateException", .fieldLink RX3 26 "StuckRods" "text" "LStuckRods$SumText;", .fieldLink RX3 85 "StuckRods$SumText" "length" "I", .fieldLink RX3 90 "StuckRods$SumText" "codes" "[I", .methodLink RX3 34 yX3_checkRange, .static yX3_checkRange, .initialized RX3, .code yX3_checkRange cX3_checkRange 3 none, .classLink RX3 101 "java/lang/IllegalArgumentException", .initialized "java/lang/IllegalArgumentException"] ++ wsX30 ++ wsX20 ++ (vx_atS RX3 46 "java/lang/IllegalStateException" ["java/lang/RuntimeException", "java/lang/Exception"]).filter goodWord ++ (vx_atS RX3 105 "java/lang/IllegalArgumentException" ["java/lang/RuntimeException", "java/lang/Exception"]).filter goodWord)
def wsX3_clearBuffer : List Cond := .code yX3_clearBuffer cX3_clearBuffer 2 (some .int) :: ([.fieldLink RX3 26 "StuckRods" "text" "LStuckRods$SumText;", .fieldLink RX3 85 "StuckRods$SumText" "length" "I"] ++ wsX30 ++ wsX20)
def wsX3_firstError : List Cond := .code yX3_firstError cX3_firstError 1 (some .int) :: ([.fieldLink RX3 26 "StuckRods" "text" "LStuckRods$SumText;", .methodLink RX3 93 yX2_firstWrong, .instanceMethod yX2_firstWrong, .selects RX2 yX2_firstWrong yX2_firstWrong, .initialized RX2, .code yX2_firstWrong cX2_firstWrong 4 (some .int), .fieldLink RX2 15 "StuckRods$SumText" "length" "I", .fieldLink RX2 9 "StuckRods$SumText" "codes" "[I", .static yX3_isSign, .initialized RX3, .code yX3_isSign cX3_isSign 1 (some .boolean), .static yX3_isDigit, .code yX3_isDigit cX3_isDigit 1 (some .boolean)] ++ wsX30 ++ wsX20)
def wsX3_reckonTerm_r1 : List Cond := [Cond.fieldLink RX3 26 "StuckRods" "text" "LStuckRods$SumText;", Cond.fieldLink RX3 90 "StuckRods$SumText" "codes" "[I", Cond.fieldLink RX3 12 "StuckRods" "board" "LStuckRods$Board;", Cond.methodLink RX3 72 yX0_change, Cond.instanceMethod yX0_change, Cond.selects RX0 yX0_change yX0_change, Cond.initialized RX0, Cond.code yX0_change cX0_change 6 (some .int), Cond.methodLink RX0 48 yX0_shown, Cond.instanceMethod yX0_shown, Cond.selects RX0 yX0_shown yX0_shown, Cond.code yX0_shown cX0_shown 2 (some .int), Cond.fieldLink RX0 9 "StuckRods$Board" "fives" "[I", Cond.fieldLink RX0 15 "StuckRods$Board" "ones" "[I", Cond.methodLink RX0 51 yX0_turn, Cond.instanceMethod yX0_turn, Cond.selects RX0 yX0_turn yX0_turn, Cond.code yX0_turn cX0_turn 8 (some .int), Cond.methodLink RX0 40 yX0_movesBy, Cond.instanceMethod yX0_movesBy, Cond.selects RX0 yX0_movesBy yX0_movesBy, Cond.code yX0_movesBy cX0_movesBy 6 (some .int), Cond.methodLink RX0 34 Lib.Math.abs.name, Cond.static Lib.Math.abs.name]
def wsX3_reckonTerm_r2 : List Cond := [Cond.initialized "java/lang/Math", Cond.code Lib.Math.abs.name Lib.Math.abs.code 1 (some .int), Cond.fieldLink RX0 18 "StuckRods$Board" "stuck" "[I", Cond.methodLink RX0 44 yX0_place, Cond.instanceMethod yX0_place, Cond.selects RX0 yX0_place yX0_place, Cond.code yX0_place cX0_place 5 none, Cond.fieldLink RX0 24 "StuckRods$Board" "moved" "[I", Cond.methodLink RX0 55 yX0_turnAndCarry, Cond.instanceMethod yX0_turnAndCarry, Cond.selects RX0 yX0_turnAndCarry yX0_turnAndCarry, Cond.code yX0_turnAndCarry cX0_turnAndCarry 8 (some .int), Cond.methodLink RX0 59 yX0_borrow, Cond.instanceMethod yX0_borrow, Cond.selects RX0 yX0_borrow yX0_borrow, Cond.code yX0_borrow cX0_borrow 5 (some .boolean), Cond.fieldLink RX0 21 "StuckRods$Board" "loan" "[I", Cond.fieldLink RX0 30 "StuckRods$Board" "setting" "I", Cond.fieldLink RX0 27 "StuckRods$Board" "borrowed" "[I"]
def wsX3_reckonTerm : List Cond := .code yX3_reckonTerm cX3_reckonTerm 6 (some .int) :: ((wsX3_reckonTerm_r1 ++ wsX3_reckonTerm_r2) ++ wsX30 ++ wsX20 ++ wsX00)
def wsX3_reckon_r1 : List Cond := [Cond.classLink RX3 101 "java/lang/IllegalArgumentException", Cond.initialized "java/lang/IllegalArgumentException", Cond.fieldLink RX3 26 "StuckRods" "text" "LStuckRods$SumText;", Cond.fieldLink RX3 19 "StuckRods" "history" "LStuckRods$History;", Cond.fieldLink RX3 12 "StuckRods" "board" "LStuckRods$Board;", Cond.fieldLink RX3 85 "StuckRods$SumText" "length" "I", Cond.fieldLink RX3 90 "StuckRods$SumText" "codes" "[I", Cond.methodLink RX3 97 yX2_isCompleteSum, Cond.instanceMethod yX2_isCompleteSum, Cond.selects RX2 yX2_isCompleteSum yX2_isCompleteSum, Cond.initialized RX2, Cond.code yX2_isCompleteSum cX2_isCompleteSum 1 (some .boolean), Cond.fieldLink RX2 15 "StuckRods$SumText" "length" "I", Cond.fieldLink RX2 9 "StuckRods$SumText" "codes" "[I", Cond.methodLink RX2 26 yX2_firstWrong, Cond.instanceMethod yX2_firstWrong, Cond.selects RX2 yX2_firstWrong yX2_firstWrong, Cond.code yX2_firstWrong cX2_firstWrong 4 (some .int), Cond.static yX3_isSign, Cond.initialized RX3, Cond.code yX3_isSign cX3_isSign 1 (some .boolean), Cond.static yX3_isDigit, Cond.code yX3_isDigit cX3_isDigit 1 (some .boolean), Cond.methodLink RX3 49 yX1_keep]
def wsX3_reckon_r2 : List Cond := [Cond.instanceMethod yX1_keep, Cond.selects RX1 yX1_keep yX1_keep, Cond.initialized RX1, Cond.code yX1_keep cX1_keep 2 none, Cond.fieldLink RX1 21 "StuckRods$History" "size" "I", Cond.fieldLink RX1 17 "StuckRods$History" "oldest" "I", Cond.fieldLink RX1 11 "StuckRods$History" "slots" "[LStuckRods$Board;", Cond.methodLink RX1 25 yX0_copyFrom, Cond.instanceMethod yX0_copyFrom, Cond.selects RX0 yX0_copyFrom yX0_copyFrom, Cond.initialized RX0, Cond.code yX0_copyFrom cX0_copyFrom 3 none, Cond.fieldLink RX0 9 "StuckRods$Board" "fives" "[I", Cond.fieldLink RX0 15 "StuckRods$Board" "ones" "[I", Cond.fieldLink RX0 18 "StuckRods$Board" "stuck" "[I", Cond.fieldLink RX0 21 "StuckRods$Board" "loan" "[I", Cond.fieldLink RX0 24 "StuckRods$Board" "moved" "[I", Cond.fieldLink RX0 27 "StuckRods$Board" "borrowed" "[I", Cond.fieldLink RX0 30 "StuckRods$Board" "setting" "I", Cond.methodLink RX3 106 yX3_isSign, Cond.methodLink RX3 110 yX2_digitsBehind, Cond.instanceMethod yX2_digitsBehind, Cond.selects RX2 yX2_digitsBehind yX2_digitsBehind, Cond.code yX2_digitsBehind cX2_digitsBehind 4 (some .int)]
def wsX3_reckon_r3 : List Cond := [Cond.methodLink RX3 113 yX3_reckonTerm, Cond.instanceMethod yX3_reckonTerm, Cond.selects RX3 yX3_reckonTerm yX3_reckonTerm, Cond.code yX3_reckonTerm cX3_reckonTerm 6 (some .int), Cond.methodLink RX3 72 yX0_change, Cond.instanceMethod yX0_change, Cond.selects RX0 yX0_change yX0_change, Cond.code yX0_change cX0_change 6 (some .int), Cond.methodLink RX0 48 yX0_shown, Cond.instanceMethod yX0_shown, Cond.selects RX0 yX0_shown yX0_shown, Cond.code yX0_shown cX0_shown 2 (some .int), Cond.methodLink RX0 51 yX0_turn, Cond.instanceMethod yX0_turn, Cond.selects RX0 yX0_turn yX0_turn, Cond.code yX0_turn cX0_turn 8 (some .int), Cond.methodLink RX0 40 yX0_movesBy, Cond.instanceMethod yX0_movesBy, Cond.selects RX0 yX0_movesBy yX0_movesBy, Cond.code yX0_movesBy cX0_movesBy 6 (some .int), Cond.methodLink RX0 34 Lib.Math.abs.name, Cond.static Lib.Math.abs.name, Cond.initialized "java/lang/Math", Cond.code Lib.Math.abs.name Lib.Math.abs.code 1 (some .int)]
def wsX3_reckon_r4 : List Cond := [Cond.methodLink RX0 44 yX0_place, Cond.instanceMethod yX0_place, Cond.selects RX0 yX0_place yX0_place, Cond.code yX0_place cX0_place 5 none, Cond.methodLink RX0 55 yX0_turnAndCarry, Cond.instanceMethod yX0_turnAndCarry, Cond.selects RX0 yX0_turnAndCarry yX0_turnAndCarry, Cond.code yX0_turnAndCarry cX0_turnAndCarry 8 (some .int), Cond.methodLink RX0 59 yX0_borrow, Cond.instanceMethod yX0_borrow, Cond.selects RX0 yX0_borrow yX0_borrow, Cond.code yX0_borrow cX0_borrow 5 (some .boolean)]
def wsX3_reckon : List Cond := .code yX3_reckon cX3_reckon 5 (some .int) :: ((wsX3_reckon_r1 ++ (wsX3_reckon_r2 ++ (wsX3_reckon_r3 ++ wsX3_reckon_r4))) ++ wsX30 ++ wsX20 ++ wsX10 ++ wsX00 ++ (vx_atS RX3 105 "java/lang/IllegalArgumentException" ["java/lang/RuntimeException", "java/lang/Exception"]).filter goodWord)
def wsX3_undo_r1 : List Cond := [Cond.classLink RX3 42 "java/lang/IllegalStateException", Cond.initialized "java/lang/IllegalStateException", Cond.fieldLink RX3 19 "StuckRods" "history" "LStuckRods$History;", Cond.fieldLink RX3 116 "StuckRods$History" "size" "I", Cond.fieldLink RX3 12 "StuckRods" "board" "LStuckRods$Board;", Cond.methodLink RX3 121 yX1_restore, Cond.instanceMethod yX1_restore, Cond.selects RX1 yX1_restore yX1_restore, Cond.initialized RX1, Cond.code yX1_restore cX1_restore 2 none, Cond.fieldLink RX1 21 "StuckRods$History" "size" "I", Cond.fieldLink RX1 11 "StuckRods$History" "slots" "[LStuckRods$Board;", Cond.fieldLink RX1 17 "StuckRods$History" "oldest" "I", Cond.methodLink RX1 25 yX0_copyFrom, Cond.instanceMethod yX0_copyFrom, Cond.selects RX0 yX0_copyFrom yX0_copyFrom, Cond.initialized RX0, Cond.code yX0_copyFrom cX0_copyFrom 3 none, Cond.fieldLink RX0 9 "StuckRods$Board" "fives" "[I", Cond.fieldLink RX0 15 "StuckRods$Board" "ones" "[I", Cond.fieldLink RX0 18 "StuckRods$Board" "stuck" "[I", Cond.fieldLink RX0 21 "StuckRods$Board" "loan" "[I", Cond.fieldLink RX0 24 "StuckRods$Board" "moved" "[I", Cond.fieldLink RX0 27 "StuckRods$Board" "borrowed" "[I"]
def wsX3_undo_r2 : List Cond := [Cond.fieldLink RX0 30 "StuckRods$Board" "setting" "I"]
def wsX3_undo : List Cond := .code yX3_undo cX3_undo 1 (some .int) :: ((wsX3_undo_r1 ++ wsX3_undo_r2) ++ wsX30 ++ wsX10 ++ wsX00 ++ (vx_atS RX3 46 "java/lang/IllegalStateException" ["java/lang/RuntimeException", "java/lang/Exception"]).filter goodWord)
def wsX3_rod_r1 : List Cond := [Cond.fieldLink RX3 12 "StuckRods" "board" "LStuckRods$Board;", Cond.fieldLink RX3 124 "StuckRods$Board" "fives" "[I", Cond.fieldLink RX3 127 "StuckRods$Board" "ones" "[I", Cond.fieldLink RX3 69 "StuckRods$Board" "loan" "[I", Cond.fieldLink RX3 57 "StuckRods$Board" "stuck" "[I", Cond.fieldLink RX3 133 "StuckRods$Board" "moved" "[I", Cond.fieldLink RX3 136 "StuckRods$Board" "borrowed" "[I", Cond.methodLink RX3 30 yX3_checkRod, Cond.static yX3_checkRod, Cond.initialized RX3, Cond.code yX3_checkRod cX3_checkRod 1 none, Cond.classLink RX3 210 "java/lang/IndexOutOfBoundsException", Cond.initialized "java/lang/IndexOutOfBoundsException", Cond.methodLink RX3 34 yX3_checkRange, Cond.static yX3_checkRange, Cond.code yX3_checkRange cX3_checkRange 3 none, Cond.classLink RX3 101 "java/lang/IllegalArgumentException", Cond.initialized "java/lang/IllegalArgumentException", Cond.methodLink RX3 130 yX0_shown, Cond.instanceMethod yX0_shown, Cond.selects RX0 yX0_shown yX0_shown, Cond.initialized RX0, Cond.code yX0_shown cX0_shown 2 (some .int), Cond.fieldLink RX0 9 "StuckRods$Board" "fives" "[I"]
def wsX3_rod_r2 : List Cond := [Cond.fieldLink RX0 15 "StuckRods$Board" "ones" "[I", Cond.methodLink RX3 139 yX0_reach, Cond.instanceMethod yX0_reach, Cond.selects RX0 yX0_reach yX0_reach, Cond.code yX0_reach cX0_reach 4 (some .int), Cond.methodLink RX0 51 yX0_turn, Cond.instanceMethod yX0_turn, Cond.selects RX0 yX0_turn yX0_turn, Cond.code yX0_turn cX0_turn 8 (some .int), Cond.methodLink RX0 40 yX0_movesBy, Cond.instanceMethod yX0_movesBy, Cond.selects RX0 yX0_movesBy yX0_movesBy, Cond.code yX0_movesBy cX0_movesBy 6 (some .int), Cond.methodLink RX0 34 Lib.Math.abs.name, Cond.static Lib.Math.abs.name, Cond.initialized "java/lang/Math", Cond.code Lib.Math.abs.name Lib.Math.abs.code 1 (some .int), Cond.fieldLink RX0 18 "StuckRods$Board" "stuck" "[I", Cond.methodLink RX0 44 yX0_place, Cond.instanceMethod yX0_place, Cond.selects RX0 yX0_place yX0_place, Cond.code yX0_place cX0_place 5 none, Cond.fieldLink RX0 24 "StuckRods$Board" "moved" "[I"]
def wsX3_rod : List Cond := .code yX3_rod cX3_rod 3 (some .int) :: ((wsX3_rod_r1 ++ wsX3_rod_r2) ++ wsX30 ++ wsX00 ++ (vx_atS RX3 214 "java/lang/IndexOutOfBoundsException" ["java/lang/RuntimeException", "java/lang/Exception"]).filter goodWord ++ (vx_atS RX3 105 "java/lang/IllegalArgumentException" ["java/lang/RuntimeException", "java/lang/Exception"]).filter goodWord)
def wsX3_whole : List Cond := .code yX3_whole cX3_whole 6 (some .long) :: ([.fieldLink RX3 12 "StuckRods" "board" "LStuckRods$Board;", .fieldLink RX3 69 "StuckRods$Board" "loan" "[I", .constantLong RX3 142 (10), .methodLink RX3 130 yX0_shown, .instanceMethod yX0_shown, .selects RX0 yX0_shown yX0_shown, .initialized RX0, .code yX0_shown cX0_shown 2 (some .int), .fieldLink RX0 9 "StuckRods$Board" "fives" "[I", .fieldLink RX0 15 "StuckRods$Board" "ones" "[I"] ++ wsX30 ++ wsX00)
def wsJ9_floorMod_7cf53 : List Cond := .code yJ9_floorMod_7cf53 cJ9_floorMod_7cf53 3 (some .int) :: ([])
def wsX3_count_r1 : List Cond := [Cond.fieldLink RX3 12 "StuckRods" "board" "LStuckRods$Board;", Cond.fieldLink RX3 61 "StuckRods$Board" "setting" "I", Cond.fieldLink RX3 19 "StuckRods" "history" "LStuckRods$History;", Cond.fieldLink RX3 116 "StuckRods$History" "size" "I", Cond.methodLink RX3 34 yX3_checkRange, Cond.static yX3_checkRange, Cond.initialized RX3, Cond.code yX3_checkRange cX3_checkRange 3 none, Cond.classLink RX3 101 "java/lang/IllegalArgumentException", Cond.initialized "java/lang/IllegalArgumentException", Cond.methodLink RX3 144 yX0_allMoved, Cond.instanceMethod yX0_allMoved, Cond.selects RX0 yX0_allMoved yX0_allMoved, Cond.initialized RX0, Cond.code yX0_allMoved cX0_allMoved 3 (some .int), Cond.fieldLink RX0 24 "StuckRods$Board" "moved" "[I", Cond.methodLink RX3 147 yX0_rodsWithLoan, Cond.instanceMethod yX0_rodsWithLoan, Cond.selects RX0 yX0_rodsWithLoan yX0_rodsWithLoan, Cond.code yX0_rodsWithLoan cX0_rodsWithLoan 3 (some .int), Cond.fieldLink RX0 21 "StuckRods$Board" "loan" "[I", Cond.methodLink RX3 150 yX0_allLoans, Cond.instanceMethod yX0_allLoans, Cond.selects RX0 yX0_allLoans yX0_allLoans]
def wsX3_count_r2 : List Cond := [Cond.code yX0_allLoans cX0_allLoans 3 (some .int), Cond.methodLink RX3 153 yX0_allShown, Cond.instanceMethod yX0_allShown, Cond.selects RX0 yX0_allShown yX0_allShown, Cond.code yX0_allShown cX0_allShown 3 (some .int), Cond.methodLink RX0 48 yX0_shown, Cond.instanceMethod yX0_shown, Cond.selects RX0 yX0_shown yX0_shown, Cond.code yX0_shown cX0_shown 2 (some .int), Cond.fieldLink RX0 9 "StuckRods$Board" "fives" "[I", Cond.fieldLink RX0 15 "StuckRods$Board" "ones" "[I", Cond.methodLink RX3 156 yJ9_floorMod_7cf53, Cond.static yJ9_floorMod_7cf53, Cond.initialized RJ9, Cond.code yJ9_floorMod_7cf53 cJ9_floorMod_7cf53 3 (some .int), Cond.methodLink RX3 161 yX0_rodsOutOfOrder, Cond.instanceMethod yX0_rodsOutOfOrder, Cond.selects RX0 yX0_rodsOutOfOrder yX0_rodsOutOfOrder, Cond.code yX0_rodsOutOfOrder cX0_rodsOutOfOrder 3 (some .int), Cond.methodLink RX3 164 yX0_rodsWithStuck, Cond.instanceMethod yX0_rodsWithStuck, Cond.selects RX0 yX0_rodsWithStuck yX0_rodsWithStuck, Cond.code yX0_rodsWithStuck cX0_rodsWithStuck 3 (some .int), Cond.fieldLink RX0 18 "StuckRods$Board" "stuck" "[I"]
def wsX3_count : List Cond := .code yX3_count cX3_count 2 (some .int) :: ((wsX3_count_r1 ++ wsX3_count_r2) ++ wsX30 ++ wsX00 ++ wsX10 ++ (vx_atS RX3 105 "java/lang/IllegalArgumentException" ["java/lang/RuntimeException", "java/lang/Exception"]).filter goodWord)
def wsX3_moves_r1 : List Cond := [Cond.fieldLink RX3 12 "StuckRods" "board" "LStuckRods$Board;", Cond.methodLink RX3 30 yX3_checkRod, Cond.static yX3_checkRod, Cond.initialized RX3, Cond.code yX3_checkRod cX3_checkRod 1 none, Cond.classLink RX3 210 "java/lang/IndexOutOfBoundsException", Cond.initialized "java/lang/IndexOutOfBoundsException", Cond.methodLink RX3 34 yX3_checkRange, Cond.static yX3_checkRange, Cond.code yX3_checkRange cX3_checkRange 3 none, Cond.classLink RX3 101 "java/lang/IllegalArgumentException", Cond.initialized "java/lang/IllegalArgumentException", Cond.methodLink RX3 167 yX0_turn, Cond.instanceMethod yX0_turn, Cond.selects RX0 yX0_turn yX0_turn, Cond.initialized RX0, Cond.code yX0_turn cX0_turn 8 (some .int), Cond.methodLink RX0 40 yX0_movesBy, Cond.instanceMethod yX0_movesBy, Cond.selects RX0 yX0_movesBy yX0_movesBy, Cond.code yX0_movesBy cX0_movesBy 6 (some .int), Cond.fieldLink RX0 9 "StuckRods$Board" "fives" "[I", Cond.methodLink RX0 34 Lib.Math.abs.name, Cond.static Lib.Math.abs.name]
def wsX3_moves_r2 : List Cond := [Cond.initialized "java/lang/Math", Cond.code Lib.Math.abs.name Lib.Math.abs.code 1 (some .int), Cond.fieldLink RX0 15 "StuckRods$Board" "ones" "[I", Cond.fieldLink RX0 18 "StuckRods$Board" "stuck" "[I", Cond.methodLink RX0 44 yX0_place, Cond.instanceMethod yX0_place, Cond.selects RX0 yX0_place yX0_place, Cond.code yX0_place cX0_place 5 none, Cond.fieldLink RX0 24 "StuckRods$Board" "moved" "[I"]
def wsX3_moves : List Cond := .code yX3_moves cX3_moves 3 (some .int) :: ((wsX3_moves_r1 ++ wsX3_moves_r2) ++ wsX30 ++ wsX00 ++ (vx_atS RX3 214 "java/lang/IndexOutOfBoundsException" ["java/lang/RuntimeException", "java/lang/Exception"]).filter goodWord ++ (vx_atS RX3 105 "java/lang/IllegalArgumentException" ["java/lang/RuntimeException", "java/lang/Exception"]).filter goodWord)
def wsX3_ifAdded_r1 : List Cond := [Cond.fieldLink RX3 12 "StuckRods" "board" "LStuckRods$Board;", Cond.methodLink RX3 30 yX3_checkRod, Cond.static yX3_checkRod, Cond.initialized RX3, Cond.code yX3_checkRod cX3_checkRod 1 none, Cond.classLink RX3 210 "java/lang/IndexOutOfBoundsException", Cond.initialized "java/lang/IndexOutOfBoundsException", Cond.methodLink RX3 34 yX3_checkRange, Cond.static yX3_checkRange, Cond.code yX3_checkRange cX3_checkRange 3 none, Cond.classLink RX3 101 "java/lang/IllegalArgumentException", Cond.initialized "java/lang/IllegalArgumentException", Cond.methodLink RX3 72 yX0_change, Cond.instanceMethod yX0_change, Cond.selects RX0 yX0_change yX0_change, Cond.initialized RX0, Cond.code yX0_change cX0_change 6 (some .int), Cond.methodLink RX0 48 yX0_shown, Cond.instanceMethod yX0_shown, Cond.selects RX0 yX0_shown yX0_shown, Cond.code yX0_shown cX0_shown 2 (some .int), Cond.fieldLink RX0 9 "StuckRods$Board" "fives" "[I", Cond.fieldLink RX0 15 "StuckRods$Board" "ones" "[I", Cond.methodLink RX0 51 yX0_turn]
def wsX3_ifAdded_r2 : List Cond := [Cond.instanceMethod yX0_turn, Cond.selects RX0 yX0_turn yX0_turn, Cond.code yX0_turn cX0_turn 8 (some .int), Cond.methodLink RX0 40 yX0_movesBy, Cond.instanceMethod yX0_movesBy, Cond.selects RX0 yX0_movesBy yX0_movesBy, Cond.code yX0_movesBy cX0_movesBy 6 (some .int), Cond.methodLink RX0 34 Lib.Math.abs.name, Cond.static Lib.Math.abs.name, Cond.initialized "java/lang/Math", Cond.code Lib.Math.abs.name Lib.Math.abs.code 1 (some .int), Cond.fieldLink RX0 18 "StuckRods$Board" "stuck" "[I", Cond.methodLink RX0 44 yX0_place, Cond.instanceMethod yX0_place, Cond.selects RX0 yX0_place yX0_place, Cond.code yX0_place cX0_place 5 none, Cond.fieldLink RX0 24 "StuckRods$Board" "moved" "[I", Cond.methodLink RX0 55 yX0_turnAndCarry, Cond.instanceMethod yX0_turnAndCarry, Cond.selects RX0 yX0_turnAndCarry yX0_turnAndCarry, Cond.code yX0_turnAndCarry cX0_turnAndCarry 8 (some .int), Cond.methodLink RX0 59 yX0_borrow, Cond.instanceMethod yX0_borrow, Cond.selects RX0 yX0_borrow yX0_borrow]
def wsX3_ifAdded_r3 : List Cond := [Cond.code yX0_borrow cX0_borrow 5 (some .boolean), Cond.fieldLink RX0 21 "StuckRods$Board" "loan" "[I", Cond.fieldLink RX0 30 "StuckRods$Board" "setting" "I", Cond.fieldLink RX0 27 "StuckRods$Board" "borrowed" "[I"]
def wsX3_ifAdded : List Cond := .code yX3_ifAdded cX3_ifAdded 3 (some .int) :: ((wsX3_ifAdded_r1 ++ (wsX3_ifAdded_r2 ++ wsX3_ifAdded_r3)) ++ wsX30 ++ wsX00 ++ (vx_atS RX3 214 "java/lang/IndexOutOfBoundsException" ["java/lang/RuntimeException", "java/lang/Exception"]).filter goodWord ++ (vx_atS RX3 105 "java/lang/IllegalArgumentException" ["java/lang/RuntimeException", "java/lang/Exception"]).filter goodWord)
def wsX3_toShow_r1 : List Cond := [Cond.constant RX3 170 (999999999), Cond.fieldLink RX3 12 "StuckRods" "board" "LStuckRods$Board;", Cond.methodLink RX3 34 yX3_checkRange, Cond.static yX3_checkRange, Cond.initialized RX3, Cond.code yX3_checkRange cX3_checkRange 3 none, Cond.classLink RX3 101 "java/lang/IllegalArgumentException", Cond.initialized "java/lang/IllegalArgumentException", Cond.methodLink RX3 167 yX0_turn, Cond.instanceMethod yX0_turn, Cond.selects RX0 yX0_turn yX0_turn, Cond.initialized RX0, Cond.code yX0_turn cX0_turn 8 (some .int), Cond.methodLink RX0 40 yX0_movesBy, Cond.instanceMethod yX0_movesBy, Cond.selects RX0 yX0_movesBy yX0_movesBy, Cond.code yX0_movesBy cX0_movesBy 6 (some .int), Cond.fieldLink RX0 9 "StuckRods$Board" "fives" "[I", Cond.methodLink RX0 34 Lib.Math.abs.name, Cond.static Lib.Math.abs.name, Cond.initialized "java/lang/Math", Cond.code Lib.Math.abs.name Lib.Math.abs.code 1 (some .int), Cond.fieldLink RX0 15 "StuckRods$Board" "ones" "[I", Cond.fieldLink RX0 18 "StuckRods$Board" "stuck" "[I"]
def wsX3_toShow_r2 : List Cond := [Cond.methodLink RX0 44 yX0_place, Cond.instanceMethod yX0_place, Cond.selects RX0 yX0_place yX0_place, Cond.code yX0_place cX0_place 5 none, Cond.fieldLink RX0 24 "StuckRods$Board" "moved" "[I"]
def wsX3_toShow : List Cond := .code yX3_toShow cX3_toShow 6 (some .int) :: ((wsX3_toShow_r1 ++ wsX3_toShow_r2) ++ wsX30 ++ wsX00 ++ (vx_atS RX3 105 "java/lang/IllegalArgumentException" ["java/lang/RuntimeException", "java/lang/Exception"]).filter goodWord)
def wsX3_cheapestLoan_r1 : List Cond := [Cond.fieldLink RX3 12 "StuckRods" "board" "LStuckRods$Board;", Cond.fieldLink RX3 69 "StuckRods$Board" "loan" "[I", Cond.methodLink RX3 72 yX0_change, Cond.instanceMethod yX0_change, Cond.selects RX0 yX0_change yX0_change, Cond.initialized RX0, Cond.code yX0_change cX0_change 6 (some .int), Cond.methodLink RX0 48 yX0_shown, Cond.instanceMethod yX0_shown, Cond.selects RX0 yX0_shown yX0_shown, Cond.code yX0_shown cX0_shown 2 (some .int), Cond.fieldLink RX0 9 "StuckRods$Board" "fives" "[I", Cond.fieldLink RX0 15 "StuckRods$Board" "ones" "[I", Cond.methodLink RX0 51 yX0_turn, Cond.instanceMethod yX0_turn, Cond.selects RX0 yX0_turn yX0_turn, Cond.code yX0_turn cX0_turn 8 (some .int), Cond.methodLink RX0 40 yX0_movesBy, Cond.instanceMethod yX0_movesBy, Cond.selects RX0 yX0_movesBy yX0_movesBy, Cond.code yX0_movesBy cX0_movesBy 6 (some .int), Cond.methodLink RX0 34 Lib.Math.abs.name, Cond.static Lib.Math.abs.name, Cond.initialized "java/lang/Math"]
def wsX3_cheapestLoan_r2 : List Cond := [Cond.code Lib.Math.abs.name Lib.Math.abs.code 1 (some .int), Cond.fieldLink RX0 18 "StuckRods$Board" "stuck" "[I", Cond.methodLink RX0 44 yX0_place, Cond.instanceMethod yX0_place, Cond.selects RX0 yX0_place yX0_place, Cond.code yX0_place cX0_place 5 none, Cond.fieldLink RX0 24 "StuckRods$Board" "moved" "[I", Cond.methodLink RX0 55 yX0_turnAndCarry, Cond.instanceMethod yX0_turnAndCarry, Cond.selects RX0 yX0_turnAndCarry yX0_turnAndCarry, Cond.code yX0_turnAndCarry cX0_turnAndCarry 8 (some .int), Cond.methodLink RX0 59 yX0_borrow, Cond.instanceMethod yX0_borrow, Cond.selects RX0 yX0_borrow yX0_borrow, Cond.code yX0_borrow cX0_borrow 5 (some .boolean), Cond.fieldLink RX0 21 "StuckRods$Board" "loan" "[I", Cond.fieldLink RX0 30 "StuckRods$Board" "setting" "I", Cond.fieldLink RX0 27 "StuckRods$Board" "borrowed" "[I"]
def wsX3_cheapestLoan : List Cond := .code yX3_cheapestLoan cX3_cheapestLoan 5 (some .int) :: ((wsX3_cheapestLoan_r1 ++ wsX3_cheapestLoan_r2) ++ wsX30 ++ wsX00)
def wsX3_looseness_r1 : List Cond := [Cond.fieldLink RX3 12 "StuckRods" "board" "LStuckRods$Board;", Cond.constantDouble RX3 171 (4639270566145032192), Cond.methodLink RX3 139 yX0_reach, Cond.instanceMethod yX0_reach, Cond.selects RX0 yX0_reach yX0_reach, Cond.initialized RX0, Cond.code yX0_reach cX0_reach 4 (some .int), Cond.methodLink RX0 51 yX0_turn, Cond.instanceMethod yX0_turn, Cond.selects RX0 yX0_turn yX0_turn, Cond.code yX0_turn cX0_turn 8 (some .int), Cond.methodLink RX0 40 yX0_movesBy, Cond.instanceMethod yX0_movesBy, Cond.selects RX0 yX0_movesBy yX0_movesBy, Cond.code yX0_movesBy cX0_movesBy 6 (some .int), Cond.fieldLink RX0 9 "StuckRods$Board" "fives" "[I", Cond.methodLink RX0 34 Lib.Math.abs.name, Cond.static Lib.Math.abs.name, Cond.initialized "java/lang/Math", Cond.code Lib.Math.abs.name Lib.Math.abs.code 1 (some .int), Cond.fieldLink RX0 15 "StuckRods$Board" "ones" "[I", Cond.fieldLink RX0 18 "StuckRods$Board" "stuck" "[I", Cond.methodLink RX0 44 yX0_place, Cond.instanceMethod yX0_place]
def wsX3_looseness_r2 : List Cond := [Cond.selects RX0 yX0_place yX0_place, Cond.code yX0_place cX0_place 5 none, Cond.fieldLink RX0 24 "StuckRods$Board" "moved" "[I"]
def wsX3_looseness : List Cond := .code yX3_looseness cX3_looseness 3 (some .double) :: ((wsX3_looseness_r1 ++ wsX3_looseness_r2) ++ wsX30 ++ wsX00)
def wsX3_mixed : List Cond := .code yX3_mixed cX3_mixed 4 (some .long) :: ([.constantLong RX3 219 (31)])
def wsX3_bitsOf : List Cond := .code yX3_bitsOf cX3_bitsOf 6 (some .long) :: ([.constantLong RX3 221 (1023), .constantDouble RX3 223 (4611686018427387904), .constantDouble RX3 225 (4841369599423283200)])
def wsX3_digest_r1 : List Cond := [Cond.constantLong RX3 173 (3299), Cond.constant RX3 198 (123456789), Cond.fieldLink RX3 26 "StuckRods" "text" "LStuckRods$SumText;", Cond.fieldLink RX3 85 "StuckRods$SumText" "length" "I", Cond.fieldLink RX3 90 "StuckRods$SumText" "codes" "[I", Cond.methodLink RX3 175 yX3_count, Cond.instanceMethod yX3_count, Cond.selects RX3 yX3_count yX3_count, Cond.initialized RX3, Cond.code yX3_count cX3_count 2 (some .int), Cond.fieldLink RX3 12 "StuckRods" "board" "LStuckRods$Board;", Cond.fieldLink RX3 61 "StuckRods$Board" "setting" "I", Cond.fieldLink RX3 19 "StuckRods" "history" "LStuckRods$History;", Cond.fieldLink RX3 116 "StuckRods$History" "size" "I", Cond.methodLink RX3 34 yX3_checkRange, Cond.static yX3_checkRange, Cond.code yX3_checkRange cX3_checkRange 3 none, Cond.classLink RX3 101 "java/lang/IllegalArgumentException", Cond.initialized "java/lang/IllegalArgumentException", Cond.methodLink RX3 144 yX0_allMoved, Cond.instanceMethod yX0_allMoved, Cond.selects RX0 yX0_allMoved yX0_allMoved, Cond.initialized RX0, Cond.code yX0_allMoved cX0_allMoved 3 (some .int)]
def wsX3_digest_r2 : List Cond := [Cond.fieldLink RX0 24 "StuckRods$Board" "moved" "[I", Cond.methodLink RX3 147 yX0_rodsWithLoan, Cond.instanceMethod yX0_rodsWithLoan, Cond.selects RX0 yX0_rodsWithLoan yX0_rodsWithLoan, Cond.code yX0_rodsWithLoan cX0_rodsWithLoan 3 (some .int), Cond.fieldLink RX0 21 "StuckRods$Board" "loan" "[I", Cond.methodLink RX3 150 yX0_allLoans, Cond.instanceMethod yX0_allLoans, Cond.selects RX0 yX0_allLoans yX0_allLoans, Cond.code yX0_allLoans cX0_allLoans 3 (some .int), Cond.methodLink RX3 153 yX0_allShown, Cond.instanceMethod yX0_allShown, Cond.selects RX0 yX0_allShown yX0_allShown, Cond.code yX0_allShown cX0_allShown 3 (some .int), Cond.methodLink RX0 48 yX0_shown, Cond.instanceMethod yX0_shown, Cond.selects RX0 yX0_shown yX0_shown, Cond.code yX0_shown cX0_shown 2 (some .int), Cond.fieldLink RX0 9 "StuckRods$Board" "fives" "[I", Cond.fieldLink RX0 15 "StuckRods$Board" "ones" "[I", Cond.methodLink RX3 156 yJ9_floorMod_7cf53, Cond.static yJ9_floorMod_7cf53, Cond.initialized RJ9, Cond.code yJ9_floorMod_7cf53 cJ9_floorMod_7cf53 3 (some .int)]
def wsX3_digest_r3 : List Cond := [Cond.methodLink RX3 161 yX0_rodsOutOfOrder, Cond.instanceMethod yX0_rodsOutOfOrder, Cond.selects RX0 yX0_rodsOutOfOrder yX0_rodsOutOfOrder, Cond.code yX0_rodsOutOfOrder cX0_rodsOutOfOrder 3 (some .int), Cond.methodLink RX3 164 yX0_rodsWithStuck, Cond.instanceMethod yX0_rodsWithStuck, Cond.selects RX0 yX0_rodsWithStuck yX0_rodsWithStuck, Cond.code yX0_rodsWithStuck cX0_rodsWithStuck 3 (some .int), Cond.fieldLink RX0 18 "StuckRods$Board" "stuck" "[I", Cond.methodLink RX3 178 yX3_mixed, Cond.static yX3_mixed, Cond.code yX3_mixed cX3_mixed 4 (some .long), Cond.constantLong RX3 219 (31), Cond.methodLink RX3 182 yX3_whole, Cond.instanceMethod yX3_whole, Cond.selects RX3 yX3_whole yX3_whole, Cond.code yX3_whole cX3_whole 6 (some .long), Cond.fieldLink RX3 69 "StuckRods$Board" "loan" "[I", Cond.constantLong RX3 142 (10), Cond.methodLink RX3 130 yX0_shown, Cond.methodLink RX3 186 yX3_rod, Cond.instanceMethod yX3_rod, Cond.selects RX3 yX3_rod yX3_rod, Cond.code yX3_rod cX3_rod 3 (some .int)]
def wsX3_digest_r4 : List Cond := [Cond.fieldLink RX3 124 "StuckRods$Board" "fives" "[I", Cond.fieldLink RX3 127 "StuckRods$Board" "ones" "[I", Cond.fieldLink RX3 57 "StuckRods$Board" "stuck" "[I", Cond.fieldLink RX3 133 "StuckRods$Board" "moved" "[I", Cond.fieldLink RX3 136 "StuckRods$Board" "borrowed" "[I", Cond.methodLink RX3 30 yX3_checkRod, Cond.static yX3_checkRod, Cond.code yX3_checkRod cX3_checkRod 1 none, Cond.classLink RX3 210 "java/lang/IndexOutOfBoundsException", Cond.initialized "java/lang/IndexOutOfBoundsException", Cond.methodLink RX3 139 yX0_reach, Cond.instanceMethod yX0_reach, Cond.selects RX0 yX0_reach yX0_reach, Cond.code yX0_reach cX0_reach 4 (some .int), Cond.methodLink RX0 51 yX0_turn, Cond.instanceMethod yX0_turn, Cond.selects RX0 yX0_turn yX0_turn, Cond.code yX0_turn cX0_turn 8 (some .int), Cond.methodLink RX0 40 yX0_movesBy, Cond.instanceMethod yX0_movesBy, Cond.selects RX0 yX0_movesBy yX0_movesBy, Cond.code yX0_movesBy cX0_movesBy 6 (some .int), Cond.methodLink RX0 34 Lib.Math.abs.name, Cond.static Lib.Math.abs.name]
def wsX3_digest_r5 : List Cond := [Cond.initialized "java/lang/Math", Cond.code Lib.Math.abs.name Lib.Math.abs.code 1 (some .int), Cond.methodLink RX0 44 yX0_place, Cond.instanceMethod yX0_place, Cond.selects RX0 yX0_place yX0_place, Cond.code yX0_place cX0_place 5 none, Cond.methodLink RX3 189 yX3_moves, Cond.instanceMethod yX3_moves, Cond.selects RX3 yX3_moves yX3_moves, Cond.code yX3_moves cX3_moves 3 (some .int), Cond.methodLink RX3 167 yX0_turn, Cond.methodLink RX3 192 yX3_ifAdded, Cond.instanceMethod yX3_ifAdded, Cond.selects RX3 yX3_ifAdded yX3_ifAdded, Cond.code yX3_ifAdded cX3_ifAdded 3 (some .int), Cond.methodLink RX3 72 yX0_change, Cond.instanceMethod yX0_change, Cond.selects RX0 yX0_change yX0_change, Cond.code yX0_change cX0_change 6 (some .int), Cond.methodLink RX0 55 yX0_turnAndCarry, Cond.instanceMethod yX0_turnAndCarry, Cond.selects RX0 yX0_turnAndCarry yX0_turnAndCarry, Cond.code yX0_turnAndCarry cX0_turnAndCarry 8 (some .int), Cond.methodLink RX0 59 yX0_borrow]
def wsX3_digest_r6 : List Cond := [Cond.instanceMethod yX0_borrow, Cond.selects RX0 yX0_borrow yX0_borrow, Cond.code yX0_borrow cX0_borrow 5 (some .boolean), Cond.fieldLink RX0 30 "StuckRods$Board" "setting" "I", Cond.fieldLink RX0 27 "StuckRods$Board" "borrowed" "[I", Cond.methodLink RX3 195 yX3_toShow, Cond.instanceMethod yX3_toShow, Cond.selects RX3 yX3_toShow yX3_toShow, Cond.code yX3_toShow cX3_toShow 6 (some .int), Cond.constant RX3 170 (999999999), Cond.methodLink RX3 199 yX3_cheapestLoan, Cond.instanceMethod yX3_cheapestLoan, Cond.selects RX3 yX3_cheapestLoan yX3_cheapestLoan, Cond.code yX3_cheapestLoan cX3_cheapestLoan 5 (some .int), Cond.methodLink RX3 202 yX3_looseness, Cond.instanceMethod yX3_looseness, Cond.selects RX3 yX3_looseness yX3_looseness, Cond.code yX3_looseness cX3_looseness 3 (some .double), Cond.constantDouble RX3 171 (4639270566145032192), Cond.methodLink RX3 206 yX3_bitsOf, Cond.static yX3_bitsOf, Cond.code yX3_bitsOf cX3_bitsOf 6 (some .long), Cond.constantLong RX3 221 (1023), Cond.constantDouble RX3 223 (4611686018427387904)]
def wsX3_digest_r7 : List Cond := [Cond.constantDouble RX3 225 (4841369599423283200)]
def wsX3_digest : List Cond := .code yX3_digest cX3_digest 5 (some .long) :: ((wsX3_digest_r1 ++ (wsX3_digest_r2 ++ (wsX3_digest_r3 ++ (wsX3_digest_r4 ++ (wsX3_digest_r5 ++ (wsX3_digest_r6 ++ wsX3_digest_r7)))))) ++ wsX30 ++ wsX20 ++ wsX00 ++ wsX10 ++ (vx_atS RX3 105 "java/lang/IllegalArgumentException" ["java/lang/RuntimeException", "java/lang/Exception"]).filter goodWord ++ (vx_atS RX3 214 "java/lang/IndexOutOfBoundsException" ["java/lang/RuntimeException", "java/lang/Exception"]).filter goodWord)
def wsX4_init : List Cond := .code yX4_init cX4_init 1 none :: ([.methodLink RX4 1 objectInit, .instanceMethod objectInit, .code objectInit ⟨#[0xb1]⟩ 1 none, .arrayClass .int, .fieldLink RX4 7 "StuckRodsModel" "s" "[I", .fieldLink RX4 13 "StuckRodsModel" "aside" "[I", .fieldLink RX4 16 "StuckRodsModel" "saved" "[I", .fieldLink RX4 19 "StuckRodsModel" "text" "[I"] ++ wsX40)
def wsX4_thrown : List Cond := .code yX4_thrown cX4_thrown 1 (some .int) :: ([.fieldLink RX4 22 "StuckRodsModel" "thrown" "I"] ++ wsX40)
def wsX4_in : List Cond := .code yX4_in cX4_in 3 (some .boolean) :: ([])
def wsX4_holds : List Cond := .code yX4_holds cX4_holds 2 (some .boolean) :: ([.fieldLink RX4 22 "StuckRodsModel" "thrown" "I"] ++ wsX40)
def wsX4_of : List Cond := .code yX4_of cX4_of 2 (some .int) :: ([])
def wsX4_isRod : List Cond := .code yX4_isRod cX4_isRod 1 (some .boolean) :: ([.methodLink RX4 26 yX4_in, .static yX4_in, .initialized RX4, .code yX4_in cX4_in 3 (some .boolean)])
def wsX4_size : List Cond := .code yX4_size cX4_size 1 (some .int) :: ([])
def wsX4_save : List Cond := .code yX4_save cX4_save 2 none :: ([.fieldLink RX4 30 "StuckRodsModel" "savedMany" "I", .fieldLink RX4 16 "StuckRodsModel" "saved" "[I", .fieldLink RX4 7 "StuckRodsModel" "s" "[I"] ++ wsX40)
def wsX4_putAside : List Cond := .code yX4_putAside cX4_putAside 2 none :: ([.fieldLink RX4 13 "StuckRodsModel" "aside" "[I", .fieldLink RX4 7 "StuckRodsModel" "s" "[I"] ++ wsX40)
def wsX4_putBack : List Cond := .code yX4_putBack cX4_putBack 2 none :: ([.fieldLink RX4 7 "StuckRodsModel" "s" "[I", .fieldLink RX4 13 "StuckRodsModel" "aside" "[I"] ++ wsX40)
def wsX4_shows : List Cond := .code yX4_shows cX4_shows 2 (some .int) :: ([.fieldLink RX4 7 "StuckRodsModel" "s" "[I", .methodLink RX4 33 yX4_of, .static yX4_of, .initialized RX4, .code yX4_of cX4_of 2 (some .int)] ++ wsX40)
def wsX4_movesTo : List Cond := .code yX4_movesTo cX4_movesTo 4 (some .int) :: ([.fieldLink RX4 7 "StuckRodsModel" "s" "[I", .methodLink RX4 33 yX4_of, .static yX4_of, .initialized RX4, .code yX4_of cX4_of 2 (some .int), .methodLink RX4 37 yX4_size, .static yX4_size, .code yX4_size cX4_size 1 (some .int)] ++ wsX40)
def wsX4_isLoose : List Cond := .code yX4_isLoose cX4_isLoose 5 (some .boolean) :: ([.fieldLink RX4 7 "StuckRodsModel" "s" "[I", .methodLink RX4 33 yX4_of, .static yX4_of, .initialized RX4, .code yX4_of cX4_of 2 (some .int)] ++ wsX40)
def wsX4_fivesFor : List Cond := .code yX4_fivesFor cX4_fivesFor 7 (some .int) :: ([.methodLink RX4 26 yX4_in, .static yX4_in, .initialized RX4, .code yX4_in cX4_in 3 (some .boolean), .methodLink RX4 41 yX4_isLoose, .instanceMethod yX4_isLoose, .selects RX4 yX4_isLoose yX4_isLoose, .code yX4_isLoose cX4_isLoose 5 (some .boolean), .fieldLink RX4 7 "StuckRodsModel" "s" "[I", .methodLink RX4 33 yX4_of, .static yX4_of, .code yX4_of cX4_of 2 (some .int), .methodLink RX4 44 yX4_movesTo, .instanceMethod yX4_movesTo, .selects RX4 yX4_movesTo yX4_movesTo, .code yX4_movesTo cX4_movesTo 4 (some .int), .methodLink RX4 37 yX4_size, .static yX4_size, .code yX4_size cX4_size 1 (some .int)] ++ wsX40)
def wsX4_can : List Cond := .code yX4_can cX4_can 3 (some .boolean) :: ([.methodLink RX4 48 yX4_fivesFor, .instanceMethod yX4_fivesFor, .selects RX4 yX4_fivesFor yX4_fivesFor, .initialized RX4, .code yX4_fivesFor cX4_fivesFor 7 (some .int), .methodLink RX4 26 yX4_in, .static yX4_in, .code yX4_in cX4_in 3 (some .boolean), .methodLink RX4 41 yX4_isLoose, .instanceMethod yX4_isLoose, .selects RX4 yX4_isLoose yX4_isLoose, .code yX4_isLoose cX4_isLoose 5 (some .boolean), .fieldLink RX4 7 "StuckRodsModel" "s" "[I", .methodLink RX4 33 yX4_of, .static yX4_of, .code yX4_of cX4_of 2 (some .int), .methodLink RX4 44 yX4_movesTo, .instanceMethod yX4_movesTo, .selects RX4 yX4_movesTo yX4_movesTo, .code yX4_movesTo cX4_movesTo 4 (some .int), .methodLink RX4 37 yX4_size, .static yX4_size, .code yX4_size cX4_size 1 (some .int)] ++ wsX40)
def wsX4_movesBeads : List Cond := .code yX4_movesBeads cX4_movesBeads 5 (some .int) :: ([.fieldLink RX4 7 "StuckRodsModel" "s" "[I", .methodLink RX4 44 yX4_movesTo, .instanceMethod yX4_movesTo, .selects RX4 yX4_movesTo yX4_movesTo, .initialized RX4, .code yX4_movesTo cX4_movesTo 4 (some .int), .methodLink RX4 33 yX4_of, .static yX4_of, .code yX4_of cX4_of 2 (some .int), .methodLink RX4 37 yX4_size, .static yX4_size, .code yX4_size cX4_size 1 (some .int)] ++ wsX40)
def wsX4_comes_r1 : List Cond := [Cond.methodLink RX4 48 yX4_fivesFor, Cond.instanceMethod yX4_fivesFor, Cond.selects RX4 yX4_fivesFor yX4_fivesFor, Cond.initialized RX4, Cond.code yX4_fivesFor cX4_fivesFor 7 (some .int), Cond.methodLink RX4 26 yX4_in, Cond.static yX4_in, Cond.code yX4_in cX4_in 3 (some .boolean), Cond.methodLink RX4 41 yX4_isLoose, Cond.instanceMethod yX4_isLoose, Cond.selects RX4 yX4_isLoose yX4_isLoose, Cond.code yX4_isLoose cX4_isLoose 5 (some .boolean), Cond.fieldLink RX4 7 "StuckRodsModel" "s" "[I", Cond.methodLink RX4 33 yX4_of, Cond.static yX4_of, Cond.code yX4_of cX4_of 2 (some .int), Cond.methodLink RX4 44 yX4_movesTo, Cond.instanceMethod yX4_movesTo, Cond.selects RX4 yX4_movesTo yX4_movesTo, Cond.code yX4_movesTo cX4_movesTo 4 (some .int), Cond.methodLink RX4 37 yX4_size, Cond.static yX4_size, Cond.code yX4_size cX4_size 1 (some .int), Cond.methodLink RX4 51 yX4_movesBeads]
def wsX4_comes_r2 : List Cond := [Cond.instanceMethod yX4_movesBeads, Cond.selects RX4 yX4_movesBeads yX4_movesBeads, Cond.code yX4_movesBeads cX4_movesBeads 5 (some .int)]
def wsX4_comes : List Cond := .code yX4_comes cX4_comes 5 none :: ((wsX4_comes_r1 ++ wsX4_comes_r2) ++ wsX40)
def wsX4_allMoves : List Cond := .code yX4_allMoves cX4_allMoves 3 (some .int) :: ([.fieldLink RX4 7 "StuckRodsModel" "s" "[I", .methodLink RX4 33 yX4_of, .static yX4_of, .initialized RX4, .code yX4_of cX4_of 2 (some .int)] ++ wsX40)
def wsX4_carries_r1 : List Cond := [Cond.fieldLink RX4 7 "StuckRodsModel" "s" "[I", Cond.methodLink RX4 54 yX4_shows, Cond.instanceMethod yX4_shows, Cond.selects RX4 yX4_shows yX4_shows, Cond.initialized RX4, Cond.code yX4_shows cX4_shows 2 (some .int), Cond.methodLink RX4 33 yX4_of, Cond.static yX4_of, Cond.code yX4_of cX4_of 2 (some .int), Cond.methodLink RX4 57 yX4_can, Cond.instanceMethod yX4_can, Cond.selects RX4 yX4_can yX4_can, Cond.code yX4_can cX4_can 3 (some .boolean), Cond.methodLink RX4 48 yX4_fivesFor, Cond.instanceMethod yX4_fivesFor, Cond.selects RX4 yX4_fivesFor yX4_fivesFor, Cond.code yX4_fivesFor cX4_fivesFor 7 (some .int), Cond.methodLink RX4 26 yX4_in, Cond.static yX4_in, Cond.code yX4_in cX4_in 3 (some .boolean), Cond.methodLink RX4 41 yX4_isLoose, Cond.instanceMethod yX4_isLoose, Cond.selects RX4 yX4_isLoose yX4_isLoose, Cond.code yX4_isLoose cX4_isLoose 5 (some .boolean)]
def wsX4_carries_r2 : List Cond := [Cond.methodLink RX4 44 yX4_movesTo, Cond.instanceMethod yX4_movesTo, Cond.selects RX4 yX4_movesTo yX4_movesTo, Cond.code yX4_movesTo cX4_movesTo 4 (some .int), Cond.methodLink RX4 37 yX4_size, Cond.static yX4_size, Cond.code yX4_size cX4_size 1 (some .int), Cond.methodLink RX4 61 yX4_comes, Cond.instanceMethod yX4_comes, Cond.selects RX4 yX4_comes yX4_comes, Cond.code yX4_comes cX4_comes 5 none, Cond.methodLink RX4 51 yX4_movesBeads, Cond.instanceMethod yX4_movesBeads, Cond.selects RX4 yX4_movesBeads yX4_movesBeads, Cond.code yX4_movesBeads cX4_movesBeads 5 (some .int)]
def wsX4_carries : List Cond := .code yX4_carries cX4_carries 4 (some .boolean) :: ((wsX4_carries_r1 ++ wsX4_carries_r2) ++ wsX40)
def wsX4_adds_r1 : List Cond := [Cond.methodLink RX4 54 yX4_shows, Cond.instanceMethod yX4_shows, Cond.selects RX4 yX4_shows yX4_shows, Cond.initialized RX4, Cond.code yX4_shows cX4_shows 2 (some .int), Cond.fieldLink RX4 7 "StuckRodsModel" "s" "[I", Cond.methodLink RX4 33 yX4_of, Cond.static yX4_of, Cond.code yX4_of cX4_of 2 (some .int), Cond.methodLink RX4 57 yX4_can, Cond.instanceMethod yX4_can, Cond.selects RX4 yX4_can yX4_can, Cond.code yX4_can cX4_can 3 (some .boolean), Cond.methodLink RX4 48 yX4_fivesFor, Cond.instanceMethod yX4_fivesFor, Cond.selects RX4 yX4_fivesFor yX4_fivesFor, Cond.code yX4_fivesFor cX4_fivesFor 7 (some .int), Cond.methodLink RX4 26 yX4_in, Cond.static yX4_in, Cond.code yX4_in cX4_in 3 (some .boolean), Cond.methodLink RX4 41 yX4_isLoose, Cond.instanceMethod yX4_isLoose, Cond.selects RX4 yX4_isLoose yX4_isLoose, Cond.code yX4_isLoose cX4_isLoose 5 (some .boolean)]
def wsX4_adds_r2 : List Cond := [Cond.methodLink RX4 44 yX4_movesTo, Cond.instanceMethod yX4_movesTo, Cond.selects RX4 yX4_movesTo yX4_movesTo, Cond.code yX4_movesTo cX4_movesTo 4 (some .int), Cond.methodLink RX4 37 yX4_size, Cond.static yX4_size, Cond.code yX4_size cX4_size 1 (some .int), Cond.methodLink RX4 61 yX4_comes, Cond.instanceMethod yX4_comes, Cond.selects RX4 yX4_comes yX4_comes, Cond.code yX4_comes cX4_comes 5 none, Cond.methodLink RX4 51 yX4_movesBeads, Cond.instanceMethod yX4_movesBeads, Cond.selects RX4 yX4_movesBeads yX4_movesBeads, Cond.code yX4_movesBeads cX4_movesBeads 5 (some .int), Cond.methodLink RX4 65 yX4_carries, Cond.instanceMethod yX4_carries, Cond.selects RX4 yX4_carries yX4_carries, Cond.code yX4_carries cX4_carries 4 (some .boolean)]
def wsX4_adds : List Cond := .code yX4_adds cX4_adds 4 (some .boolean) :: ((wsX4_adds_r1 ++ wsX4_adds_r2) ++ wsX40)
def wsX4_pays_r1 : List Cond := [Cond.fieldLink RX4 7 "StuckRodsModel" "s" "[I", Cond.methodLink RX4 33 yX4_of, Cond.static yX4_of, Cond.initialized RX4, Cond.code yX4_of cX4_of 2 (some .int), Cond.methodLink RX4 68 yX4_adds, Cond.instanceMethod yX4_adds, Cond.selects RX4 yX4_adds yX4_adds, Cond.code yX4_adds cX4_adds 4 (some .boolean), Cond.methodLink RX4 54 yX4_shows, Cond.instanceMethod yX4_shows, Cond.selects RX4 yX4_shows yX4_shows, Cond.code yX4_shows cX4_shows 2 (some .int), Cond.methodLink RX4 57 yX4_can, Cond.instanceMethod yX4_can, Cond.selects RX4 yX4_can yX4_can, Cond.code yX4_can cX4_can 3 (some .boolean), Cond.methodLink RX4 48 yX4_fivesFor, Cond.instanceMethod yX4_fivesFor, Cond.selects RX4 yX4_fivesFor yX4_fivesFor, Cond.code yX4_fivesFor cX4_fivesFor 7 (some .int), Cond.methodLink RX4 26 yX4_in, Cond.static yX4_in, Cond.code yX4_in cX4_in 3 (some .boolean)]
def wsX4_pays_r2 : List Cond := [Cond.methodLink RX4 41 yX4_isLoose, Cond.instanceMethod yX4_isLoose, Cond.selects RX4 yX4_isLoose yX4_isLoose, Cond.code yX4_isLoose cX4_isLoose 5 (some .boolean), Cond.methodLink RX4 44 yX4_movesTo, Cond.instanceMethod yX4_movesTo, Cond.selects RX4 yX4_movesTo yX4_movesTo, Cond.code yX4_movesTo cX4_movesTo 4 (some .int), Cond.methodLink RX4 37 yX4_size, Cond.static yX4_size, Cond.code yX4_size cX4_size 1 (some .int), Cond.methodLink RX4 61 yX4_comes, Cond.instanceMethod yX4_comes, Cond.selects RX4 yX4_comes yX4_comes, Cond.code yX4_comes cX4_comes 5 none, Cond.methodLink RX4 51 yX4_movesBeads, Cond.instanceMethod yX4_movesBeads, Cond.selects RX4 yX4_movesBeads yX4_movesBeads, Cond.code yX4_movesBeads cX4_movesBeads 5 (some .int), Cond.methodLink RX4 65 yX4_carries, Cond.instanceMethod yX4_carries, Cond.selects RX4 yX4_carries yX4_carries, Cond.code yX4_carries cX4_carries 4 (some .boolean)]
def wsX4_pays : List Cond := .code yX4_pays cX4_pays 3 (some .boolean) :: ((wsX4_pays_r1 ++ wsX4_pays_r2) ++ wsX40)
def wsX4_orders_r1 : List Cond := [Cond.methodLink RX4 54 yX4_shows, Cond.instanceMethod yX4_shows, Cond.selects RX4 yX4_shows yX4_shows, Cond.initialized RX4, Cond.code yX4_shows cX4_shows 2 (some .int), Cond.fieldLink RX4 7 "StuckRodsModel" "s" "[I", Cond.methodLink RX4 33 yX4_of, Cond.static yX4_of, Cond.code yX4_of cX4_of 2 (some .int), Cond.methodLink RX4 57 yX4_can, Cond.instanceMethod yX4_can, Cond.selects RX4 yX4_can yX4_can, Cond.code yX4_can cX4_can 3 (some .boolean), Cond.methodLink RX4 48 yX4_fivesFor, Cond.instanceMethod yX4_fivesFor, Cond.selects RX4 yX4_fivesFor yX4_fivesFor, Cond.code yX4_fivesFor cX4_fivesFor 7 (some .int), Cond.methodLink RX4 26 yX4_in, Cond.static yX4_in, Cond.code yX4_in cX4_in 3 (some .boolean), Cond.methodLink RX4 41 yX4_isLoose, Cond.instanceMethod yX4_isLoose, Cond.selects RX4 yX4_isLoose yX4_isLoose, Cond.code yX4_isLoose cX4_isLoose 5 (some .boolean)]
def wsX4_orders_r2 : List Cond := [Cond.methodLink RX4 44 yX4_movesTo, Cond.instanceMethod yX4_movesTo, Cond.selects RX4 yX4_movesTo yX4_movesTo, Cond.code yX4_movesTo cX4_movesTo 4 (some .int), Cond.methodLink RX4 37 yX4_size, Cond.static yX4_size, Cond.code yX4_size cX4_size 1 (some .int), Cond.methodLink RX4 61 yX4_comes, Cond.instanceMethod yX4_comes, Cond.selects RX4 yX4_comes yX4_comes, Cond.code yX4_comes cX4_comes 5 none, Cond.methodLink RX4 51 yX4_movesBeads, Cond.instanceMethod yX4_movesBeads, Cond.selects RX4 yX4_movesBeads yX4_movesBeads, Cond.code yX4_movesBeads cX4_movesBeads 5 (some .int), Cond.methodLink RX4 65 yX4_carries, Cond.instanceMethod yX4_carries, Cond.selects RX4 yX4_carries yX4_carries, Cond.code yX4_carries cX4_carries 4 (some .boolean)]
def wsX4_orders : List Cond := .code yX4_orders cX4_orders 2 (some .boolean) :: ((wsX4_orders_r1 ++ wsX4_orders_r2) ++ wsX40)
def wsX4_tries_r1 : List Cond := [Cond.methodLink RX4 71 yX4_putAside, Cond.instanceMethod yX4_putAside, Cond.selects RX4 yX4_putAside yX4_putAside, Cond.initialized RX4, Cond.code yX4_putAside cX4_putAside 2 none, Cond.fieldLink RX4 13 "StuckRodsModel" "aside" "[I", Cond.fieldLink RX4 7 "StuckRodsModel" "s" "[I", Cond.methodLink RX4 68 yX4_adds, Cond.instanceMethod yX4_adds, Cond.selects RX4 yX4_adds yX4_adds, Cond.code yX4_adds cX4_adds 4 (some .boolean), Cond.methodLink RX4 54 yX4_shows, Cond.instanceMethod yX4_shows, Cond.selects RX4 yX4_shows yX4_shows, Cond.code yX4_shows cX4_shows 2 (some .int), Cond.methodLink RX4 33 yX4_of, Cond.static yX4_of, Cond.code yX4_of cX4_of 2 (some .int), Cond.methodLink RX4 57 yX4_can, Cond.instanceMethod yX4_can, Cond.selects RX4 yX4_can yX4_can, Cond.code yX4_can cX4_can 3 (some .boolean), Cond.methodLink RX4 48 yX4_fivesFor, Cond.instanceMethod yX4_fivesFor]
def wsX4_tries_r2 : List Cond := [Cond.selects RX4 yX4_fivesFor yX4_fivesFor, Cond.code yX4_fivesFor cX4_fivesFor 7 (some .int), Cond.methodLink RX4 26 yX4_in, Cond.static yX4_in, Cond.code yX4_in cX4_in 3 (some .boolean), Cond.methodLink RX4 41 yX4_isLoose, Cond.instanceMethod yX4_isLoose, Cond.selects RX4 yX4_isLoose yX4_isLoose, Cond.code yX4_isLoose cX4_isLoose 5 (some .boolean), Cond.methodLink RX4 44 yX4_movesTo, Cond.instanceMethod yX4_movesTo, Cond.selects RX4 yX4_movesTo yX4_movesTo, Cond.code yX4_movesTo cX4_movesTo 4 (some .int), Cond.methodLink RX4 37 yX4_size, Cond.static yX4_size, Cond.code yX4_size cX4_size 1 (some .int), Cond.methodLink RX4 61 yX4_comes, Cond.instanceMethod yX4_comes, Cond.selects RX4 yX4_comes yX4_comes, Cond.code yX4_comes cX4_comes 5 none, Cond.methodLink RX4 51 yX4_movesBeads, Cond.instanceMethod yX4_movesBeads, Cond.selects RX4 yX4_movesBeads yX4_movesBeads, Cond.code yX4_movesBeads cX4_movesBeads 5 (some .int)]
def wsX4_tries_r3 : List Cond := [Cond.methodLink RX4 65 yX4_carries, Cond.instanceMethod yX4_carries, Cond.selects RX4 yX4_carries yX4_carries, Cond.code yX4_carries cX4_carries 4 (some .boolean), Cond.methodLink RX4 74 yX4_pays, Cond.instanceMethod yX4_pays, Cond.selects RX4 yX4_pays yX4_pays, Cond.code yX4_pays cX4_pays 3 (some .boolean), Cond.methodLink RX4 78 yX4_orders, Cond.instanceMethod yX4_orders, Cond.selects RX4 yX4_orders yX4_orders, Cond.code yX4_orders cX4_orders 2 (some .boolean), Cond.methodLink RX4 81 yX4_putBack, Cond.instanceMethod yX4_putBack, Cond.selects RX4 yX4_putBack yX4_putBack, Cond.code yX4_putBack cX4_putBack 2 none]
def wsX4_tries : List Cond := .code yX4_tries cX4_tries 5 (some .boolean) :: ((wsX4_tries_r1 ++ (wsX4_tries_r2 ++ wsX4_tries_r3)) ++ wsX40)
def wsX4_move_r1 : List Cond := [Cond.methodLink RX4 84 yX4_isRod, Cond.static yX4_isRod, Cond.initialized RX4, Cond.code yX4_isRod cX4_isRod 1 (some .boolean), Cond.methodLink RX4 26 yX4_in, Cond.static yX4_in, Cond.code yX4_in cX4_in 3 (some .boolean), Cond.methodLink RX4 41 yX4_isLoose, Cond.instanceMethod yX4_isLoose, Cond.selects RX4 yX4_isLoose yX4_isLoose, Cond.code yX4_isLoose cX4_isLoose 5 (some .boolean), Cond.fieldLink RX4 7 "StuckRodsModel" "s" "[I", Cond.methodLink RX4 33 yX4_of, Cond.static yX4_of, Cond.code yX4_of cX4_of 2 (some .int), Cond.methodLink RX4 87 yX4_holds, Cond.instanceMethod yX4_holds, Cond.selects RX4 yX4_holds yX4_holds, Cond.code yX4_holds cX4_holds 2 (some .boolean), Cond.fieldLink RX4 22 "StuckRodsModel" "thrown" "I", Cond.methodLink RX4 90 yX4_save, Cond.instanceMethod yX4_save, Cond.selects RX4 yX4_save yX4_save, Cond.code yX4_save cX4_save 2 none]
def wsX4_move_r2 : List Cond := [Cond.fieldLink RX4 30 "StuckRodsModel" "savedMany" "I", Cond.fieldLink RX4 16 "StuckRodsModel" "saved" "[I", Cond.methodLink RX4 51 yX4_movesBeads, Cond.instanceMethod yX4_movesBeads, Cond.selects RX4 yX4_movesBeads yX4_movesBeads, Cond.code yX4_movesBeads cX4_movesBeads 5 (some .int), Cond.methodLink RX4 44 yX4_movesTo, Cond.instanceMethod yX4_movesTo, Cond.selects RX4 yX4_movesTo yX4_movesTo, Cond.code yX4_movesTo cX4_movesTo 4 (some .int), Cond.methodLink RX4 37 yX4_size, Cond.static yX4_size, Cond.code yX4_size cX4_size 1 (some .int)]
def wsX4_move : List Cond := .code yX4_move cX4_move 4 (some .int) :: ((wsX4_move_r1 ++ wsX4_move_r2) ++ wsX40)
def wsX4_puts : List Cond := .code yX4_puts cX4_puts 4 (some .int) :: ([.fieldLink RX4 7 "StuckRodsModel" "s" "[I", .methodLink RX4 90 yX4_save, .instanceMethod yX4_save, .selects RX4 yX4_save yX4_save, .initialized RX4, .code yX4_save cX4_save 2 none, .fieldLink RX4 30 "StuckRodsModel" "savedMany" "I", .fieldLink RX4 16 "StuckRodsModel" "saved" "[I"] ++ wsX40)
def wsX4_stick_r1 : List Cond := [Cond.methodLink RX4 84 yX4_isRod, Cond.static yX4_isRod, Cond.initialized RX4, Cond.code yX4_isRod cX4_isRod 1 (some .boolean), Cond.methodLink RX4 26 yX4_in, Cond.static yX4_in, Cond.code yX4_in cX4_in 3 (some .boolean), Cond.methodLink RX4 87 yX4_holds, Cond.instanceMethod yX4_holds, Cond.selects RX4 yX4_holds yX4_holds, Cond.code yX4_holds cX4_holds 2 (some .boolean), Cond.fieldLink RX4 22 "StuckRodsModel" "thrown" "I", Cond.methodLink RX4 33 yX4_of, Cond.static yX4_of, Cond.code yX4_of cX4_of 2 (some .int), Cond.methodLink RX4 93 yX4_puts, Cond.instanceMethod yX4_puts, Cond.selects RX4 yX4_puts yX4_puts, Cond.code yX4_puts cX4_puts 4 (some .int), Cond.fieldLink RX4 7 "StuckRodsModel" "s" "[I", Cond.methodLink RX4 90 yX4_save, Cond.instanceMethod yX4_save, Cond.selects RX4 yX4_save yX4_save, Cond.code yX4_save cX4_save 2 none]
def wsX4_stick_r2 : List Cond := [Cond.fieldLink RX4 30 "StuckRodsModel" "savedMany" "I", Cond.fieldLink RX4 16 "StuckRodsModel" "saved" "[I"]
def wsX4_stick : List Cond := .code yX4_stick cX4_stick 3 (some .int) :: ((wsX4_stick_r1 ++ wsX4_stick_r2) ++ wsX40)
def wsX4_set : List Cond := .code yX4_set cX4_set 2 (some .int) :: ([.methodLink RX4 26 yX4_in, .static yX4_in, .initialized RX4, .code yX4_in cX4_in 3 (some .boolean), .methodLink RX4 87 yX4_holds, .instanceMethod yX4_holds, .selects RX4 yX4_holds yX4_holds, .code yX4_holds cX4_holds 2 (some .boolean), .fieldLink RX4 22 "StuckRodsModel" "thrown" "I", .methodLink RX4 93 yX4_puts, .instanceMethod yX4_puts, .selects RX4 yX4_puts yX4_puts, .code yX4_puts cX4_puts 4 (some .int), .fieldLink RX4 7 "StuckRodsModel" "s" "[I", .methodLink RX4 90 yX4_save, .instanceMethod yX4_save, .selects RX4 yX4_save yX4_save, .code yX4_save cX4_save 2 none, .fieldLink RX4 30 "StuckRodsModel" "savedMany" "I", .fieldLink RX4 16 "StuckRodsModel" "saved" "[I"] ++ wsX40)
def wsX4_takes_r1 : List Cond := [Cond.methodLink RX4 96 yX4_allMoves, Cond.instanceMethod yX4_allMoves, Cond.selects RX4 yX4_allMoves yX4_allMoves, Cond.initialized RX4, Cond.code yX4_allMoves cX4_allMoves 3 (some .int), Cond.fieldLink RX4 7 "StuckRodsModel" "s" "[I", Cond.methodLink RX4 33 yX4_of, Cond.static yX4_of, Cond.code yX4_of cX4_of 2 (some .int), Cond.methodLink RX4 100 yX4_tries, Cond.instanceMethod yX4_tries, Cond.selects RX4 yX4_tries yX4_tries, Cond.code yX4_tries cX4_tries 5 (some .boolean), Cond.methodLink RX4 71 yX4_putAside, Cond.instanceMethod yX4_putAside, Cond.selects RX4 yX4_putAside yX4_putAside, Cond.code yX4_putAside cX4_putAside 2 none, Cond.fieldLink RX4 13 "StuckRodsModel" "aside" "[I", Cond.methodLink RX4 68 yX4_adds, Cond.instanceMethod yX4_adds, Cond.selects RX4 yX4_adds yX4_adds, Cond.code yX4_adds cX4_adds 4 (some .boolean), Cond.methodLink RX4 54 yX4_shows, Cond.instanceMethod yX4_shows]
def wsX4_takes_r2 : List Cond := [Cond.selects RX4 yX4_shows yX4_shows, Cond.code yX4_shows cX4_shows 2 (some .int), Cond.methodLink RX4 57 yX4_can, Cond.instanceMethod yX4_can, Cond.selects RX4 yX4_can yX4_can, Cond.code yX4_can cX4_can 3 (some .boolean), Cond.methodLink RX4 48 yX4_fivesFor, Cond.instanceMethod yX4_fivesFor, Cond.selects RX4 yX4_fivesFor yX4_fivesFor, Cond.code yX4_fivesFor cX4_fivesFor 7 (some .int), Cond.methodLink RX4 26 yX4_in, Cond.static yX4_in, Cond.code yX4_in cX4_in 3 (some .boolean), Cond.methodLink RX4 41 yX4_isLoose, Cond.instanceMethod yX4_isLoose, Cond.selects RX4 yX4_isLoose yX4_isLoose, Cond.code yX4_isLoose cX4_isLoose 5 (some .boolean), Cond.methodLink RX4 44 yX4_movesTo, Cond.instanceMethod yX4_movesTo, Cond.selects RX4 yX4_movesTo yX4_movesTo, Cond.code yX4_movesTo cX4_movesTo 4 (some .int), Cond.methodLink RX4 37 yX4_size, Cond.static yX4_size, Cond.code yX4_size cX4_size 1 (some .int)]
def wsX4_takes_r3 : List Cond := [Cond.methodLink RX4 61 yX4_comes, Cond.instanceMethod yX4_comes, Cond.selects RX4 yX4_comes yX4_comes, Cond.code yX4_comes cX4_comes 5 none, Cond.methodLink RX4 51 yX4_movesBeads, Cond.instanceMethod yX4_movesBeads, Cond.selects RX4 yX4_movesBeads yX4_movesBeads, Cond.code yX4_movesBeads cX4_movesBeads 5 (some .int), Cond.methodLink RX4 65 yX4_carries, Cond.instanceMethod yX4_carries, Cond.selects RX4 yX4_carries yX4_carries, Cond.code yX4_carries cX4_carries 4 (some .boolean), Cond.methodLink RX4 74 yX4_pays, Cond.instanceMethod yX4_pays, Cond.selects RX4 yX4_pays yX4_pays, Cond.code yX4_pays cX4_pays 3 (some .boolean), Cond.methodLink RX4 78 yX4_orders, Cond.instanceMethod yX4_orders, Cond.selects RX4 yX4_orders yX4_orders, Cond.code yX4_orders cX4_orders 2 (some .boolean), Cond.methodLink RX4 81 yX4_putBack, Cond.instanceMethod yX4_putBack, Cond.selects RX4 yX4_putBack yX4_putBack, Cond.code yX4_putBack cX4_putBack 2 none]
def wsX4_takes : List Cond := .code yX4_takes cX4_takes 7 (some .int) :: ((wsX4_takes_r1 ++ (wsX4_takes_r2 ++ wsX4_takes_r3)) ++ wsX40)
def wsX4_does_r1 : List Cond := [Cond.methodLink RX4 90 yX4_save, Cond.instanceMethod yX4_save, Cond.selects RX4 yX4_save yX4_save, Cond.initialized RX4, Cond.code yX4_save cX4_save 2 none, Cond.fieldLink RX4 30 "StuckRodsModel" "savedMany" "I", Cond.fieldLink RX4 16 "StuckRodsModel" "saved" "[I", Cond.fieldLink RX4 7 "StuckRodsModel" "s" "[I", Cond.methodLink RX4 96 yX4_allMoves, Cond.instanceMethod yX4_allMoves, Cond.selects RX4 yX4_allMoves yX4_allMoves, Cond.code yX4_allMoves cX4_allMoves 3 (some .int), Cond.methodLink RX4 33 yX4_of, Cond.static yX4_of, Cond.code yX4_of cX4_of 2 (some .int), Cond.methodLink RX4 100 yX4_tries, Cond.instanceMethod yX4_tries, Cond.selects RX4 yX4_tries yX4_tries, Cond.code yX4_tries cX4_tries 5 (some .boolean), Cond.methodLink RX4 71 yX4_putAside, Cond.instanceMethod yX4_putAside, Cond.selects RX4 yX4_putAside yX4_putAside, Cond.code yX4_putAside cX4_putAside 2 none, Cond.fieldLink RX4 13 "StuckRodsModel" "aside" "[I"]
def wsX4_does_r2 : List Cond := [Cond.methodLink RX4 68 yX4_adds, Cond.instanceMethod yX4_adds, Cond.selects RX4 yX4_adds yX4_adds, Cond.code yX4_adds cX4_adds 4 (some .boolean), Cond.methodLink RX4 54 yX4_shows, Cond.instanceMethod yX4_shows, Cond.selects RX4 yX4_shows yX4_shows, Cond.code yX4_shows cX4_shows 2 (some .int), Cond.methodLink RX4 57 yX4_can, Cond.instanceMethod yX4_can, Cond.selects RX4 yX4_can yX4_can, Cond.code yX4_can cX4_can 3 (some .boolean), Cond.methodLink RX4 48 yX4_fivesFor, Cond.instanceMethod yX4_fivesFor, Cond.selects RX4 yX4_fivesFor yX4_fivesFor, Cond.code yX4_fivesFor cX4_fivesFor 7 (some .int), Cond.methodLink RX4 26 yX4_in, Cond.static yX4_in, Cond.code yX4_in cX4_in 3 (some .boolean), Cond.methodLink RX4 41 yX4_isLoose, Cond.instanceMethod yX4_isLoose, Cond.selects RX4 yX4_isLoose yX4_isLoose, Cond.code yX4_isLoose cX4_isLoose 5 (some .boolean), Cond.methodLink RX4 44 yX4_movesTo]
def wsX4_does_r3 : List Cond := [Cond.instanceMethod yX4_movesTo, Cond.selects RX4 yX4_movesTo yX4_movesTo, Cond.code yX4_movesTo cX4_movesTo 4 (some .int), Cond.methodLink RX4 37 yX4_size, Cond.static yX4_size, Cond.code yX4_size cX4_size 1 (some .int), Cond.methodLink RX4 61 yX4_comes, Cond.instanceMethod yX4_comes, Cond.selects RX4 yX4_comes yX4_comes, Cond.code yX4_comes cX4_comes 5 none, Cond.methodLink RX4 51 yX4_movesBeads, Cond.instanceMethod yX4_movesBeads, Cond.selects RX4 yX4_movesBeads yX4_movesBeads, Cond.code yX4_movesBeads cX4_movesBeads 5 (some .int), Cond.methodLink RX4 65 yX4_carries, Cond.instanceMethod yX4_carries, Cond.selects RX4 yX4_carries yX4_carries, Cond.code yX4_carries cX4_carries 4 (some .boolean), Cond.methodLink RX4 74 yX4_pays, Cond.instanceMethod yX4_pays, Cond.selects RX4 yX4_pays yX4_pays, Cond.code yX4_pays cX4_pays 3 (some .boolean), Cond.methodLink RX4 78 yX4_orders, Cond.instanceMethod yX4_orders]
def wsX4_does_r4 : List Cond := [Cond.selects RX4 yX4_orders yX4_orders, Cond.code yX4_orders cX4_orders 2 (some .boolean), Cond.methodLink RX4 81 yX4_putBack, Cond.instanceMethod yX4_putBack, Cond.selects RX4 yX4_putBack yX4_putBack, Cond.code yX4_putBack cX4_putBack 2 none]
def wsX4_does : List Cond := .code yX4_does cX4_does 6 (some .int) :: ((wsX4_does_r1 ++ (wsX4_does_r2 ++ (wsX4_does_r3 ++ wsX4_does_r4))) ++ wsX40)
def wsX4_add_r1 : List Cond := [Cond.methodLink RX4 84 yX4_isRod, Cond.static yX4_isRod, Cond.initialized RX4, Cond.code yX4_isRod cX4_isRod 1 (some .boolean), Cond.methodLink RX4 26 yX4_in, Cond.static yX4_in, Cond.code yX4_in cX4_in 3 (some .boolean), Cond.methodLink RX4 103 yX4_takes, Cond.instanceMethod yX4_takes, Cond.selects RX4 yX4_takes yX4_takes, Cond.code yX4_takes cX4_takes 7 (some .int), Cond.methodLink RX4 96 yX4_allMoves, Cond.instanceMethod yX4_allMoves, Cond.selects RX4 yX4_allMoves yX4_allMoves, Cond.code yX4_allMoves cX4_allMoves 3 (some .int), Cond.fieldLink RX4 7 "StuckRodsModel" "s" "[I", Cond.methodLink RX4 33 yX4_of, Cond.static yX4_of, Cond.code yX4_of cX4_of 2 (some .int), Cond.methodLink RX4 100 yX4_tries, Cond.instanceMethod yX4_tries, Cond.selects RX4 yX4_tries yX4_tries, Cond.code yX4_tries cX4_tries 5 (some .boolean), Cond.methodLink RX4 71 yX4_putAside]
def wsX4_add_r2 : List Cond := [Cond.instanceMethod yX4_putAside, Cond.selects RX4 yX4_putAside yX4_putAside, Cond.code yX4_putAside cX4_putAside 2 none, Cond.fieldLink RX4 13 "StuckRodsModel" "aside" "[I", Cond.methodLink RX4 68 yX4_adds, Cond.instanceMethod yX4_adds, Cond.selects RX4 yX4_adds yX4_adds, Cond.code yX4_adds cX4_adds 4 (some .boolean), Cond.methodLink RX4 54 yX4_shows, Cond.instanceMethod yX4_shows, Cond.selects RX4 yX4_shows yX4_shows, Cond.code yX4_shows cX4_shows 2 (some .int), Cond.methodLink RX4 57 yX4_can, Cond.instanceMethod yX4_can, Cond.selects RX4 yX4_can yX4_can, Cond.code yX4_can cX4_can 3 (some .boolean), Cond.methodLink RX4 48 yX4_fivesFor, Cond.instanceMethod yX4_fivesFor, Cond.selects RX4 yX4_fivesFor yX4_fivesFor, Cond.code yX4_fivesFor cX4_fivesFor 7 (some .int), Cond.methodLink RX4 41 yX4_isLoose, Cond.instanceMethod yX4_isLoose, Cond.selects RX4 yX4_isLoose yX4_isLoose, Cond.code yX4_isLoose cX4_isLoose 5 (some .boolean)]
def wsX4_add_r3 : List Cond := [Cond.methodLink RX4 44 yX4_movesTo, Cond.instanceMethod yX4_movesTo, Cond.selects RX4 yX4_movesTo yX4_movesTo, Cond.code yX4_movesTo cX4_movesTo 4 (some .int), Cond.methodLink RX4 37 yX4_size, Cond.static yX4_size, Cond.code yX4_size cX4_size 1 (some .int), Cond.methodLink RX4 61 yX4_comes, Cond.instanceMethod yX4_comes, Cond.selects RX4 yX4_comes yX4_comes, Cond.code yX4_comes cX4_comes 5 none, Cond.methodLink RX4 51 yX4_movesBeads, Cond.instanceMethod yX4_movesBeads, Cond.selects RX4 yX4_movesBeads yX4_movesBeads, Cond.code yX4_movesBeads cX4_movesBeads 5 (some .int), Cond.methodLink RX4 65 yX4_carries, Cond.instanceMethod yX4_carries, Cond.selects RX4 yX4_carries yX4_carries, Cond.code yX4_carries cX4_carries 4 (some .boolean), Cond.methodLink RX4 74 yX4_pays, Cond.instanceMethod yX4_pays, Cond.selects RX4 yX4_pays yX4_pays, Cond.code yX4_pays cX4_pays 3 (some .boolean), Cond.methodLink RX4 78 yX4_orders]
def wsX4_add_r4 : List Cond := [Cond.instanceMethod yX4_orders, Cond.selects RX4 yX4_orders yX4_orders, Cond.code yX4_orders cX4_orders 2 (some .boolean), Cond.methodLink RX4 81 yX4_putBack, Cond.instanceMethod yX4_putBack, Cond.selects RX4 yX4_putBack yX4_putBack, Cond.code yX4_putBack cX4_putBack 2 none, Cond.methodLink RX4 87 yX4_holds, Cond.instanceMethod yX4_holds, Cond.selects RX4 yX4_holds yX4_holds, Cond.code yX4_holds cX4_holds 2 (some .boolean), Cond.fieldLink RX4 22 "StuckRodsModel" "thrown" "I", Cond.methodLink RX4 106 yX4_does, Cond.instanceMethod yX4_does, Cond.selects RX4 yX4_does yX4_does, Cond.code yX4_does cX4_does 6 (some .int), Cond.methodLink RX4 90 yX4_save, Cond.instanceMethod yX4_save, Cond.selects RX4 yX4_save yX4_save, Cond.code yX4_save cX4_save 2 none, Cond.fieldLink RX4 30 "StuckRodsModel" "savedMany" "I", Cond.fieldLink RX4 16 "StuckRodsModel" "saved" "[I"]
def wsX4_add : List Cond := .code yX4_add cX4_add 3 (some .int) :: ((wsX4_add_r1 ++ (wsX4_add_r2 ++ (wsX4_add_r3 ++ wsX4_add_r4))) ++ wsX40)
def wsX4_less_r1 : List Cond := [Cond.methodLink RX4 84 yX4_isRod, Cond.static yX4_isRod, Cond.initialized RX4, Cond.code yX4_isRod cX4_isRod 1 (some .boolean), Cond.methodLink RX4 26 yX4_in, Cond.static yX4_in, Cond.code yX4_in cX4_in 3 (some .boolean), Cond.methodLink RX4 103 yX4_takes, Cond.instanceMethod yX4_takes, Cond.selects RX4 yX4_takes yX4_takes, Cond.code yX4_takes cX4_takes 7 (some .int), Cond.methodLink RX4 96 yX4_allMoves, Cond.instanceMethod yX4_allMoves, Cond.selects RX4 yX4_allMoves yX4_allMoves, Cond.code yX4_allMoves cX4_allMoves 3 (some .int), Cond.fieldLink RX4 7 "StuckRodsModel" "s" "[I", Cond.methodLink RX4 33 yX4_of, Cond.static yX4_of, Cond.code yX4_of cX4_of 2 (some .int), Cond.methodLink RX4 100 yX4_tries, Cond.instanceMethod yX4_tries, Cond.selects RX4 yX4_tries yX4_tries, Cond.code yX4_tries cX4_tries 5 (some .boolean), Cond.methodLink RX4 71 yX4_putAside]
def wsX4_less_r2 : List Cond := [Cond.instanceMethod yX4_putAside, Cond.selects RX4 yX4_putAside yX4_putAside, Cond.code yX4_putAside cX4_putAside 2 none, Cond.fieldLink RX4 13 "StuckRodsModel" "aside" "[I", Cond.methodLink RX4 68 yX4_adds, Cond.instanceMethod yX4_adds, Cond.selects RX4 yX4_adds yX4_adds, Cond.code yX4_adds cX4_adds 4 (some .boolean), Cond.methodLink RX4 54 yX4_shows, Cond.instanceMethod yX4_shows, Cond.selects RX4 yX4_shows yX4_shows, Cond.code yX4_shows cX4_shows 2 (some .int), Cond.methodLink RX4 57 yX4_can, Cond.instanceMethod yX4_can, Cond.selects RX4 yX4_can yX4_can, Cond.code yX4_can cX4_can 3 (some .boolean), Cond.methodLink RX4 48 yX4_fivesFor, Cond.instanceMethod yX4_fivesFor, Cond.selects RX4 yX4_fivesFor yX4_fivesFor, Cond.code yX4_fivesFor cX4_fivesFor 7 (some .int), Cond.methodLink RX4 41 yX4_isLoose, Cond.instanceMethod yX4_isLoose, Cond.selects RX4 yX4_isLoose yX4_isLoose, Cond.code yX4_isLoose cX4_isLoose 5 (some .boolean)]
def wsX4_less_r3 : List Cond := [Cond.methodLink RX4 44 yX4_movesTo, Cond.instanceMethod yX4_movesTo, Cond.selects RX4 yX4_movesTo yX4_movesTo, Cond.code yX4_movesTo cX4_movesTo 4 (some .int), Cond.methodLink RX4 37 yX4_size, Cond.static yX4_size, Cond.code yX4_size cX4_size 1 (some .int), Cond.methodLink RX4 61 yX4_comes, Cond.instanceMethod yX4_comes, Cond.selects RX4 yX4_comes yX4_comes, Cond.code yX4_comes cX4_comes 5 none, Cond.methodLink RX4 51 yX4_movesBeads, Cond.instanceMethod yX4_movesBeads, Cond.selects RX4 yX4_movesBeads yX4_movesBeads, Cond.code yX4_movesBeads cX4_movesBeads 5 (some .int), Cond.methodLink RX4 65 yX4_carries, Cond.instanceMethod yX4_carries, Cond.selects RX4 yX4_carries yX4_carries, Cond.code yX4_carries cX4_carries 4 (some .boolean), Cond.methodLink RX4 74 yX4_pays, Cond.instanceMethod yX4_pays, Cond.selects RX4 yX4_pays yX4_pays, Cond.code yX4_pays cX4_pays 3 (some .boolean), Cond.methodLink RX4 78 yX4_orders]
def wsX4_less_r4 : List Cond := [Cond.instanceMethod yX4_orders, Cond.selects RX4 yX4_orders yX4_orders, Cond.code yX4_orders cX4_orders 2 (some .boolean), Cond.methodLink RX4 81 yX4_putBack, Cond.instanceMethod yX4_putBack, Cond.selects RX4 yX4_putBack yX4_putBack, Cond.code yX4_putBack cX4_putBack 2 none, Cond.methodLink RX4 87 yX4_holds, Cond.instanceMethod yX4_holds, Cond.selects RX4 yX4_holds yX4_holds, Cond.code yX4_holds cX4_holds 2 (some .boolean), Cond.fieldLink RX4 22 "StuckRodsModel" "thrown" "I", Cond.methodLink RX4 106 yX4_does, Cond.instanceMethod yX4_does, Cond.selects RX4 yX4_does yX4_does, Cond.code yX4_does cX4_does 6 (some .int), Cond.methodLink RX4 90 yX4_save, Cond.instanceMethod yX4_save, Cond.selects RX4 yX4_save yX4_save, Cond.code yX4_save cX4_save 2 none, Cond.fieldLink RX4 30 "StuckRodsModel" "savedMany" "I", Cond.fieldLink RX4 16 "StuckRodsModel" "saved" "[I"]
def wsX4_less : List Cond := .code yX4_less cX4_less 3 (some .int) :: ((wsX4_less_r1 ++ (wsX4_less_r2 ++ (wsX4_less_r3 ++ wsX4_less_r4))) ++ wsX40)
def wsX4_pay_r1 : List Cond := [Cond.methodLink RX4 84 yX4_isRod, Cond.static yX4_isRod, Cond.initialized RX4, Cond.code yX4_isRod cX4_isRod 1 (some .boolean), Cond.methodLink RX4 26 yX4_in, Cond.static yX4_in, Cond.code yX4_in cX4_in 3 (some .boolean), Cond.methodLink RX4 103 yX4_takes, Cond.instanceMethod yX4_takes, Cond.selects RX4 yX4_takes yX4_takes, Cond.code yX4_takes cX4_takes 7 (some .int), Cond.methodLink RX4 96 yX4_allMoves, Cond.instanceMethod yX4_allMoves, Cond.selects RX4 yX4_allMoves yX4_allMoves, Cond.code yX4_allMoves cX4_allMoves 3 (some .int), Cond.fieldLink RX4 7 "StuckRodsModel" "s" "[I", Cond.methodLink RX4 33 yX4_of, Cond.static yX4_of, Cond.code yX4_of cX4_of 2 (some .int), Cond.methodLink RX4 100 yX4_tries, Cond.instanceMethod yX4_tries, Cond.selects RX4 yX4_tries yX4_tries, Cond.code yX4_tries cX4_tries 5 (some .boolean), Cond.methodLink RX4 71 yX4_putAside]
def wsX4_pay_r2 : List Cond := [Cond.instanceMethod yX4_putAside, Cond.selects RX4 yX4_putAside yX4_putAside, Cond.code yX4_putAside cX4_putAside 2 none, Cond.fieldLink RX4 13 "StuckRodsModel" "aside" "[I", Cond.methodLink RX4 68 yX4_adds, Cond.instanceMethod yX4_adds, Cond.selects RX4 yX4_adds yX4_adds, Cond.code yX4_adds cX4_adds 4 (some .boolean), Cond.methodLink RX4 54 yX4_shows, Cond.instanceMethod yX4_shows, Cond.selects RX4 yX4_shows yX4_shows, Cond.code yX4_shows cX4_shows 2 (some .int), Cond.methodLink RX4 57 yX4_can, Cond.instanceMethod yX4_can, Cond.selects RX4 yX4_can yX4_can, Cond.code yX4_can cX4_can 3 (some .boolean), Cond.methodLink RX4 48 yX4_fivesFor, Cond.instanceMethod yX4_fivesFor, Cond.selects RX4 yX4_fivesFor yX4_fivesFor, Cond.code yX4_fivesFor cX4_fivesFor 7 (some .int), Cond.methodLink RX4 41 yX4_isLoose, Cond.instanceMethod yX4_isLoose, Cond.selects RX4 yX4_isLoose yX4_isLoose, Cond.code yX4_isLoose cX4_isLoose 5 (some .boolean)]
def wsX4_pay_r3 : List Cond := [Cond.methodLink RX4 44 yX4_movesTo, Cond.instanceMethod yX4_movesTo, Cond.selects RX4 yX4_movesTo yX4_movesTo, Cond.code yX4_movesTo cX4_movesTo 4 (some .int), Cond.methodLink RX4 37 yX4_size, Cond.static yX4_size, Cond.code yX4_size cX4_size 1 (some .int), Cond.methodLink RX4 61 yX4_comes, Cond.instanceMethod yX4_comes, Cond.selects RX4 yX4_comes yX4_comes, Cond.code yX4_comes cX4_comes 5 none, Cond.methodLink RX4 51 yX4_movesBeads, Cond.instanceMethod yX4_movesBeads, Cond.selects RX4 yX4_movesBeads yX4_movesBeads, Cond.code yX4_movesBeads cX4_movesBeads 5 (some .int), Cond.methodLink RX4 65 yX4_carries, Cond.instanceMethod yX4_carries, Cond.selects RX4 yX4_carries yX4_carries, Cond.code yX4_carries cX4_carries 4 (some .boolean), Cond.methodLink RX4 74 yX4_pays, Cond.instanceMethod yX4_pays, Cond.selects RX4 yX4_pays yX4_pays, Cond.code yX4_pays cX4_pays 3 (some .boolean), Cond.methodLink RX4 78 yX4_orders]
def wsX4_pay_r4 : List Cond := [Cond.instanceMethod yX4_orders, Cond.selects RX4 yX4_orders yX4_orders, Cond.code yX4_orders cX4_orders 2 (some .boolean), Cond.methodLink RX4 81 yX4_putBack, Cond.instanceMethod yX4_putBack, Cond.selects RX4 yX4_putBack yX4_putBack, Cond.code yX4_putBack cX4_putBack 2 none, Cond.methodLink RX4 87 yX4_holds, Cond.instanceMethod yX4_holds, Cond.selects RX4 yX4_holds yX4_holds, Cond.code yX4_holds cX4_holds 2 (some .boolean), Cond.fieldLink RX4 22 "StuckRodsModel" "thrown" "I", Cond.methodLink RX4 106 yX4_does, Cond.instanceMethod yX4_does, Cond.selects RX4 yX4_does yX4_does, Cond.code yX4_does cX4_does 6 (some .int), Cond.methodLink RX4 90 yX4_save, Cond.instanceMethod yX4_save, Cond.selects RX4 yX4_save yX4_save, Cond.code yX4_save cX4_save 2 none, Cond.fieldLink RX4 30 "StuckRodsModel" "savedMany" "I", Cond.fieldLink RX4 16 "StuckRodsModel" "saved" "[I"]
def wsX4_pay : List Cond := .code yX4_pay cX4_pay 2 (some .int) :: ((wsX4_pay_r1 ++ (wsX4_pay_r2 ++ (wsX4_pay_r3 ++ wsX4_pay_r4))) ++ wsX40)
def wsX4_tidy_r1 : List Cond := [Cond.fieldLink RX4 22 "StuckRodsModel" "thrown" "I", Cond.methodLink RX4 90 yX4_save, Cond.instanceMethod yX4_save, Cond.selects RX4 yX4_save yX4_save, Cond.initialized RX4, Cond.code yX4_save cX4_save 2 none, Cond.fieldLink RX4 30 "StuckRodsModel" "savedMany" "I", Cond.fieldLink RX4 16 "StuckRodsModel" "saved" "[I", Cond.fieldLink RX4 7 "StuckRodsModel" "s" "[I", Cond.methodLink RX4 96 yX4_allMoves, Cond.instanceMethod yX4_allMoves, Cond.selects RX4 yX4_allMoves yX4_allMoves, Cond.code yX4_allMoves cX4_allMoves 3 (some .int), Cond.methodLink RX4 33 yX4_of, Cond.static yX4_of, Cond.code yX4_of cX4_of 2 (some .int), Cond.methodLink RX4 100 yX4_tries, Cond.instanceMethod yX4_tries, Cond.selects RX4 yX4_tries yX4_tries, Cond.code yX4_tries cX4_tries 5 (some .boolean), Cond.methodLink RX4 71 yX4_putAside, Cond.instanceMethod yX4_putAside, Cond.selects RX4 yX4_putAside yX4_putAside, Cond.code yX4_putAside cX4_putAside 2 none]
def wsX4_tidy_r2 : List Cond := [Cond.fieldLink RX4 13 "StuckRodsModel" "aside" "[I", Cond.methodLink RX4 68 yX4_adds, Cond.instanceMethod yX4_adds, Cond.selects RX4 yX4_adds yX4_adds, Cond.code yX4_adds cX4_adds 4 (some .boolean), Cond.methodLink RX4 54 yX4_shows, Cond.instanceMethod yX4_shows, Cond.selects RX4 yX4_shows yX4_shows, Cond.code yX4_shows cX4_shows 2 (some .int), Cond.methodLink RX4 57 yX4_can, Cond.instanceMethod yX4_can, Cond.selects RX4 yX4_can yX4_can, Cond.code yX4_can cX4_can 3 (some .boolean), Cond.methodLink RX4 48 yX4_fivesFor, Cond.instanceMethod yX4_fivesFor, Cond.selects RX4 yX4_fivesFor yX4_fivesFor, Cond.code yX4_fivesFor cX4_fivesFor 7 (some .int), Cond.methodLink RX4 26 yX4_in, Cond.static yX4_in, Cond.code yX4_in cX4_in 3 (some .boolean), Cond.methodLink RX4 41 yX4_isLoose, Cond.instanceMethod yX4_isLoose, Cond.selects RX4 yX4_isLoose yX4_isLoose, Cond.code yX4_isLoose cX4_isLoose 5 (some .boolean)]
def wsX4_tidy_r3 : List Cond := [Cond.methodLink RX4 44 yX4_movesTo, Cond.instanceMethod yX4_movesTo, Cond.selects RX4 yX4_movesTo yX4_movesTo, Cond.code yX4_movesTo cX4_movesTo 4 (some .int), Cond.methodLink RX4 37 yX4_size, Cond.static yX4_size, Cond.code yX4_size cX4_size 1 (some .int), Cond.methodLink RX4 61 yX4_comes, Cond.instanceMethod yX4_comes, Cond.selects RX4 yX4_comes yX4_comes, Cond.code yX4_comes cX4_comes 5 none, Cond.methodLink RX4 51 yX4_movesBeads, Cond.instanceMethod yX4_movesBeads, Cond.selects RX4 yX4_movesBeads yX4_movesBeads, Cond.code yX4_movesBeads cX4_movesBeads 5 (some .int), Cond.methodLink RX4 65 yX4_carries, Cond.instanceMethod yX4_carries, Cond.selects RX4 yX4_carries yX4_carries, Cond.code yX4_carries cX4_carries 4 (some .boolean), Cond.methodLink RX4 74 yX4_pays, Cond.instanceMethod yX4_pays, Cond.selects RX4 yX4_pays yX4_pays, Cond.code yX4_pays cX4_pays 3 (some .boolean), Cond.methodLink RX4 78 yX4_orders]
def wsX4_tidy_r4 : List Cond := [Cond.instanceMethod yX4_orders, Cond.selects RX4 yX4_orders yX4_orders, Cond.code yX4_orders cX4_orders 2 (some .boolean), Cond.methodLink RX4 81 yX4_putBack, Cond.instanceMethod yX4_putBack, Cond.selects RX4 yX4_putBack yX4_putBack, Cond.code yX4_putBack cX4_putBack 2 none]
def wsX4_tidy : List Cond := .code yX4_tidy cX4_tidy 5 (some .int) :: ((wsX4_tidy_r1 ++ (wsX4_tidy_r2 ++ (wsX4_tidy_r3 ++ wsX4_tidy_r4))) ++ wsX40)
def wsX4_append : List Cond := .code yX4_append cX4_append 2 (some .int) :: ([.fieldLink RX4 109 "StuckRodsModel" "length" "I", .fieldLink RX4 19 "StuckRodsModel" "text" "[I", .methodLink RX4 26 yX4_in, .static yX4_in, .initialized RX4, .code yX4_in cX4_in 3 (some .boolean), .methodLink RX4 87 yX4_holds, .instanceMethod yX4_holds, .selects RX4 yX4_holds yX4_holds, .code yX4_holds cX4_holds 2 (some .boolean), .fieldLink RX4 22 "StuckRodsModel" "thrown" "I"] ++ wsX40)
def wsX4_clearBuffer : List Cond := .code yX4_clearBuffer cX4_clearBuffer 2 (some .int) :: ([.fieldLink RX4 22 "StuckRodsModel" "thrown" "I", .fieldLink RX4 109 "StuckRodsModel" "length" "I"] ++ wsX40)
def wsX4_wrong : List Cond := .code yX4_wrong cX4_wrong 7 (some .int) :: ([.fieldLink RX4 109 "StuckRodsModel" "length" "I", .fieldLink RX4 19 "StuckRodsModel" "text" "[I", .methodLink RX4 26 yX4_in, .static yX4_in, .initialized RX4, .code yX4_in cX4_in 3 (some .boolean)] ++ wsX40)
def wsX4_firstError : List Cond := .code yX4_firstError cX4_firstError 1 (some .int) :: ([.fieldLink RX4 22 "StuckRodsModel" "thrown" "I", .methodLink RX4 112 yX4_wrong, .instanceMethod yX4_wrong, .selects RX4 yX4_wrong yX4_wrong, .initialized RX4, .code yX4_wrong cX4_wrong 7 (some .int), .fieldLink RX4 109 "StuckRodsModel" "length" "I", .fieldLink RX4 19 "StuckRodsModel" "text" "[I", .methodLink RX4 26 yX4_in, .static yX4_in, .code yX4_in cX4_in 3 (some .boolean)] ++ wsX40)
def wsX4_term_r1 : List Cond := [Cond.fieldLink RX4 19 "StuckRodsModel" "text" "[I", Cond.methodLink RX4 100 yX4_tries, Cond.instanceMethod yX4_tries, Cond.selects RX4 yX4_tries yX4_tries, Cond.initialized RX4, Cond.code yX4_tries cX4_tries 5 (some .boolean), Cond.methodLink RX4 71 yX4_putAside, Cond.instanceMethod yX4_putAside, Cond.selects RX4 yX4_putAside yX4_putAside, Cond.code yX4_putAside cX4_putAside 2 none, Cond.fieldLink RX4 13 "StuckRodsModel" "aside" "[I", Cond.fieldLink RX4 7 "StuckRodsModel" "s" "[I", Cond.methodLink RX4 68 yX4_adds, Cond.instanceMethod yX4_adds, Cond.selects RX4 yX4_adds yX4_adds, Cond.code yX4_adds cX4_adds 4 (some .boolean), Cond.methodLink RX4 54 yX4_shows, Cond.instanceMethod yX4_shows, Cond.selects RX4 yX4_shows yX4_shows, Cond.code yX4_shows cX4_shows 2 (some .int), Cond.methodLink RX4 33 yX4_of, Cond.static yX4_of, Cond.code yX4_of cX4_of 2 (some .int), Cond.methodLink RX4 57 yX4_can]
def wsX4_term_r2 : List Cond := [Cond.instanceMethod yX4_can, Cond.selects RX4 yX4_can yX4_can, Cond.code yX4_can cX4_can 3 (some .boolean), Cond.methodLink RX4 48 yX4_fivesFor, Cond.instanceMethod yX4_fivesFor, Cond.selects RX4 yX4_fivesFor yX4_fivesFor, Cond.code yX4_fivesFor cX4_fivesFor 7 (some .int), Cond.methodLink RX4 26 yX4_in, Cond.static yX4_in, Cond.code yX4_in cX4_in 3 (some .boolean), Cond.methodLink RX4 41 yX4_isLoose, Cond.instanceMethod yX4_isLoose, Cond.selects RX4 yX4_isLoose yX4_isLoose, Cond.code yX4_isLoose cX4_isLoose 5 (some .boolean), Cond.methodLink RX4 44 yX4_movesTo, Cond.instanceMethod yX4_movesTo, Cond.selects RX4 yX4_movesTo yX4_movesTo, Cond.code yX4_movesTo cX4_movesTo 4 (some .int), Cond.methodLink RX4 37 yX4_size, Cond.static yX4_size, Cond.code yX4_size cX4_size 1 (some .int), Cond.methodLink RX4 61 yX4_comes, Cond.instanceMethod yX4_comes, Cond.selects RX4 yX4_comes yX4_comes]
def wsX4_term_r3 : List Cond := [Cond.code yX4_comes cX4_comes 5 none, Cond.methodLink RX4 51 yX4_movesBeads, Cond.instanceMethod yX4_movesBeads, Cond.selects RX4 yX4_movesBeads yX4_movesBeads, Cond.code yX4_movesBeads cX4_movesBeads 5 (some .int), Cond.methodLink RX4 65 yX4_carries, Cond.instanceMethod yX4_carries, Cond.selects RX4 yX4_carries yX4_carries, Cond.code yX4_carries cX4_carries 4 (some .boolean), Cond.methodLink RX4 74 yX4_pays, Cond.instanceMethod yX4_pays, Cond.selects RX4 yX4_pays yX4_pays, Cond.code yX4_pays cX4_pays 3 (some .boolean), Cond.methodLink RX4 78 yX4_orders, Cond.instanceMethod yX4_orders, Cond.selects RX4 yX4_orders yX4_orders, Cond.code yX4_orders cX4_orders 2 (some .boolean), Cond.methodLink RX4 81 yX4_putBack, Cond.instanceMethod yX4_putBack, Cond.selects RX4 yX4_putBack yX4_putBack, Cond.code yX4_putBack cX4_putBack 2 none]
def wsX4_term : List Cond := .code yX4_term cX4_term 6 (some .int) :: ((wsX4_term_r1 ++ (wsX4_term_r2 ++ wsX4_term_r3)) ++ wsX40)
def wsX4_reckons_r1 : List Cond := [Cond.fieldLink RX4 109 "StuckRodsModel" "length" "I", Cond.fieldLink RX4 19 "StuckRodsModel" "text" "[I", Cond.methodLink RX4 26 yX4_in, Cond.static yX4_in, Cond.initialized RX4, Cond.code yX4_in cX4_in 3 (some .boolean), Cond.methodLink RX4 115 yX4_term, Cond.instanceMethod yX4_term, Cond.selects RX4 yX4_term yX4_term, Cond.code yX4_term cX4_term 6 (some .int), Cond.methodLink RX4 100 yX4_tries, Cond.instanceMethod yX4_tries, Cond.selects RX4 yX4_tries yX4_tries, Cond.code yX4_tries cX4_tries 5 (some .boolean), Cond.methodLink RX4 71 yX4_putAside, Cond.instanceMethod yX4_putAside, Cond.selects RX4 yX4_putAside yX4_putAside, Cond.code yX4_putAside cX4_putAside 2 none, Cond.fieldLink RX4 13 "StuckRodsModel" "aside" "[I", Cond.fieldLink RX4 7 "StuckRodsModel" "s" "[I", Cond.methodLink RX4 68 yX4_adds, Cond.instanceMethod yX4_adds, Cond.selects RX4 yX4_adds yX4_adds, Cond.code yX4_adds cX4_adds 4 (some .boolean)]
def wsX4_reckons_r2 : List Cond := [Cond.methodLink RX4 54 yX4_shows, Cond.instanceMethod yX4_shows, Cond.selects RX4 yX4_shows yX4_shows, Cond.code yX4_shows cX4_shows 2 (some .int), Cond.methodLink RX4 33 yX4_of, Cond.static yX4_of, Cond.code yX4_of cX4_of 2 (some .int), Cond.methodLink RX4 57 yX4_can, Cond.instanceMethod yX4_can, Cond.selects RX4 yX4_can yX4_can, Cond.code yX4_can cX4_can 3 (some .boolean), Cond.methodLink RX4 48 yX4_fivesFor, Cond.instanceMethod yX4_fivesFor, Cond.selects RX4 yX4_fivesFor yX4_fivesFor, Cond.code yX4_fivesFor cX4_fivesFor 7 (some .int), Cond.methodLink RX4 41 yX4_isLoose, Cond.instanceMethod yX4_isLoose, Cond.selects RX4 yX4_isLoose yX4_isLoose, Cond.code yX4_isLoose cX4_isLoose 5 (some .boolean), Cond.methodLink RX4 44 yX4_movesTo, Cond.instanceMethod yX4_movesTo, Cond.selects RX4 yX4_movesTo yX4_movesTo, Cond.code yX4_movesTo cX4_movesTo 4 (some .int), Cond.methodLink RX4 37 yX4_size]
def wsX4_reckons_r3 : List Cond := [Cond.static yX4_size, Cond.code yX4_size cX4_size 1 (some .int), Cond.methodLink RX4 61 yX4_comes, Cond.instanceMethod yX4_comes, Cond.selects RX4 yX4_comes yX4_comes, Cond.code yX4_comes cX4_comes 5 none, Cond.methodLink RX4 51 yX4_movesBeads, Cond.instanceMethod yX4_movesBeads, Cond.selects RX4 yX4_movesBeads yX4_movesBeads, Cond.code yX4_movesBeads cX4_movesBeads 5 (some .int), Cond.methodLink RX4 65 yX4_carries, Cond.instanceMethod yX4_carries, Cond.selects RX4 yX4_carries yX4_carries, Cond.code yX4_carries cX4_carries 4 (some .boolean), Cond.methodLink RX4 74 yX4_pays, Cond.instanceMethod yX4_pays, Cond.selects RX4 yX4_pays yX4_pays, Cond.code yX4_pays cX4_pays 3 (some .boolean), Cond.methodLink RX4 78 yX4_orders, Cond.instanceMethod yX4_orders, Cond.selects RX4 yX4_orders yX4_orders, Cond.code yX4_orders cX4_orders 2 (some .boolean), Cond.methodLink RX4 81 yX4_putBack, Cond.instanceMethod yX4_putBack]
def wsX4_reckons_r4 : List Cond := [Cond.selects RX4 yX4_putBack yX4_putBack, Cond.code yX4_putBack cX4_putBack 2 none]
def wsX4_reckons : List Cond := .code yX4_reckons cX4_reckons 5 (some .int) :: ((wsX4_reckons_r1 ++ (wsX4_reckons_r2 ++ (wsX4_reckons_r3 ++ wsX4_reckons_r4))) ++ wsX40)
def wsX4_reckon_r1 : List Cond := [Cond.fieldLink RX4 109 "StuckRodsModel" "length" "I", Cond.fieldLink RX4 19 "StuckRodsModel" "text" "[I", Cond.methodLink RX4 112 yX4_wrong, Cond.instanceMethod yX4_wrong, Cond.selects RX4 yX4_wrong yX4_wrong, Cond.initialized RX4, Cond.code yX4_wrong cX4_wrong 7 (some .int), Cond.methodLink RX4 26 yX4_in, Cond.static yX4_in, Cond.code yX4_in cX4_in 3 (some .boolean), Cond.methodLink RX4 87 yX4_holds, Cond.instanceMethod yX4_holds, Cond.selects RX4 yX4_holds yX4_holds, Cond.code yX4_holds cX4_holds 2 (some .boolean), Cond.fieldLink RX4 22 "StuckRodsModel" "thrown" "I", Cond.methodLink RX4 90 yX4_save, Cond.instanceMethod yX4_save, Cond.selects RX4 yX4_save yX4_save, Cond.code yX4_save cX4_save 2 none, Cond.fieldLink RX4 30 "StuckRodsModel" "savedMany" "I", Cond.fieldLink RX4 16 "StuckRodsModel" "saved" "[I", Cond.fieldLink RX4 7 "StuckRodsModel" "s" "[I", Cond.methodLink RX4 118 yX4_reckons, Cond.instanceMethod yX4_reckons]
def wsX4_reckon_r2 : List Cond := [Cond.selects RX4 yX4_reckons yX4_reckons, Cond.code yX4_reckons cX4_reckons 5 (some .int), Cond.methodLink RX4 115 yX4_term, Cond.instanceMethod yX4_term, Cond.selects RX4 yX4_term yX4_term, Cond.code yX4_term cX4_term 6 (some .int), Cond.methodLink RX4 100 yX4_tries, Cond.instanceMethod yX4_tries, Cond.selects RX4 yX4_tries yX4_tries, Cond.code yX4_tries cX4_tries 5 (some .boolean), Cond.methodLink RX4 71 yX4_putAside, Cond.instanceMethod yX4_putAside, Cond.selects RX4 yX4_putAside yX4_putAside, Cond.code yX4_putAside cX4_putAside 2 none, Cond.fieldLink RX4 13 "StuckRodsModel" "aside" "[I", Cond.methodLink RX4 68 yX4_adds, Cond.instanceMethod yX4_adds, Cond.selects RX4 yX4_adds yX4_adds, Cond.code yX4_adds cX4_adds 4 (some .boolean), Cond.methodLink RX4 54 yX4_shows, Cond.instanceMethod yX4_shows, Cond.selects RX4 yX4_shows yX4_shows, Cond.code yX4_shows cX4_shows 2 (some .int), Cond.methodLink RX4 33 yX4_of]
def wsX4_reckon_r3 : List Cond := [Cond.static yX4_of, Cond.code yX4_of cX4_of 2 (some .int), Cond.methodLink RX4 57 yX4_can, Cond.instanceMethod yX4_can, Cond.selects RX4 yX4_can yX4_can, Cond.code yX4_can cX4_can 3 (some .boolean), Cond.methodLink RX4 48 yX4_fivesFor, Cond.instanceMethod yX4_fivesFor, Cond.selects RX4 yX4_fivesFor yX4_fivesFor, Cond.code yX4_fivesFor cX4_fivesFor 7 (some .int), Cond.methodLink RX4 41 yX4_isLoose, Cond.instanceMethod yX4_isLoose, Cond.selects RX4 yX4_isLoose yX4_isLoose, Cond.code yX4_isLoose cX4_isLoose 5 (some .boolean), Cond.methodLink RX4 44 yX4_movesTo, Cond.instanceMethod yX4_movesTo, Cond.selects RX4 yX4_movesTo yX4_movesTo, Cond.code yX4_movesTo cX4_movesTo 4 (some .int), Cond.methodLink RX4 37 yX4_size, Cond.static yX4_size, Cond.code yX4_size cX4_size 1 (some .int), Cond.methodLink RX4 61 yX4_comes, Cond.instanceMethod yX4_comes, Cond.selects RX4 yX4_comes yX4_comes]
def wsX4_reckon_r4 : List Cond := [Cond.code yX4_comes cX4_comes 5 none, Cond.methodLink RX4 51 yX4_movesBeads, Cond.instanceMethod yX4_movesBeads, Cond.selects RX4 yX4_movesBeads yX4_movesBeads, Cond.code yX4_movesBeads cX4_movesBeads 5 (some .int), Cond.methodLink RX4 65 yX4_carries, Cond.instanceMethod yX4_carries, Cond.selects RX4 yX4_carries yX4_carries, Cond.code yX4_carries cX4_carries 4 (some .boolean), Cond.methodLink RX4 74 yX4_pays, Cond.instanceMethod yX4_pays, Cond.selects RX4 yX4_pays yX4_pays, Cond.code yX4_pays cX4_pays 3 (some .boolean), Cond.methodLink RX4 78 yX4_orders, Cond.instanceMethod yX4_orders, Cond.selects RX4 yX4_orders yX4_orders, Cond.code yX4_orders cX4_orders 2 (some .boolean), Cond.methodLink RX4 81 yX4_putBack, Cond.instanceMethod yX4_putBack, Cond.selects RX4 yX4_putBack yX4_putBack, Cond.code yX4_putBack cX4_putBack 2 none]
def wsX4_reckon : List Cond := .code yX4_reckon cX4_reckon 3 (some .int) :: ((wsX4_reckon_r1 ++ (wsX4_reckon_r2 ++ (wsX4_reckon_r3 ++ wsX4_reckon_r4))) ++ wsX40)
def wsX4_undo : List Cond := .code yX4_undo cX4_undo 2 (some .int) :: ([.fieldLink RX4 30 "StuckRodsModel" "savedMany" "I", .fieldLink RX4 7 "StuckRodsModel" "s" "[I", .fieldLink RX4 16 "StuckRodsModel" "saved" "[I", .methodLink RX4 87 yX4_holds, .instanceMethod yX4_holds, .selects RX4 yX4_holds yX4_holds, .initialized RX4, .code yX4_holds cX4_holds 2 (some .boolean), .fieldLink RX4 22 "StuckRodsModel" "thrown" "I"] ++ wsX40)
def wsX4_numbers_r1 : List Cond := [Cond.methodLink RX4 57 yX4_can, Cond.instanceMethod yX4_can, Cond.selects RX4 yX4_can yX4_can, Cond.initialized RX4, Cond.code yX4_can cX4_can 3 (some .boolean), Cond.methodLink RX4 48 yX4_fivesFor, Cond.instanceMethod yX4_fivesFor, Cond.selects RX4 yX4_fivesFor yX4_fivesFor, Cond.code yX4_fivesFor cX4_fivesFor 7 (some .int), Cond.methodLink RX4 26 yX4_in, Cond.static yX4_in, Cond.code yX4_in cX4_in 3 (some .boolean), Cond.methodLink RX4 41 yX4_isLoose, Cond.instanceMethod yX4_isLoose, Cond.selects RX4 yX4_isLoose yX4_isLoose, Cond.code yX4_isLoose cX4_isLoose 5 (some .boolean), Cond.fieldLink RX4 7 "StuckRodsModel" "s" "[I", Cond.methodLink RX4 33 yX4_of, Cond.static yX4_of, Cond.code yX4_of cX4_of 2 (some .int), Cond.methodLink RX4 44 yX4_movesTo, Cond.instanceMethod yX4_movesTo, Cond.selects RX4 yX4_movesTo yX4_movesTo, Cond.code yX4_movesTo cX4_movesTo 4 (some .int)]
def wsX4_numbers_r2 : List Cond := [Cond.methodLink RX4 37 yX4_size, Cond.static yX4_size, Cond.code yX4_size cX4_size 1 (some .int)]
def wsX4_numbers : List Cond := .code yX4_numbers cX4_numbers 4 (some .int) :: ((wsX4_numbers_r1 ++ wsX4_numbers_r2) ++ wsX40)
def wsX4_told_r1 : List Cond := [Cond.fieldLink RX4 7 "StuckRodsModel" "s" "[I", Cond.methodLink RX4 33 yX4_of, Cond.static yX4_of, Cond.initialized RX4, Cond.code yX4_of cX4_of 2 (some .int), Cond.methodLink RX4 54 yX4_shows, Cond.instanceMethod yX4_shows, Cond.selects RX4 yX4_shows yX4_shows, Cond.code yX4_shows cX4_shows 2 (some .int), Cond.methodLink RX4 121 yX4_numbers, Cond.instanceMethod yX4_numbers, Cond.selects RX4 yX4_numbers yX4_numbers, Cond.code yX4_numbers cX4_numbers 4 (some .int), Cond.methodLink RX4 57 yX4_can, Cond.instanceMethod yX4_can, Cond.selects RX4 yX4_can yX4_can, Cond.code yX4_can cX4_can 3 (some .boolean), Cond.methodLink RX4 48 yX4_fivesFor, Cond.instanceMethod yX4_fivesFor, Cond.selects RX4 yX4_fivesFor yX4_fivesFor, Cond.code yX4_fivesFor cX4_fivesFor 7 (some .int), Cond.methodLink RX4 26 yX4_in, Cond.static yX4_in, Cond.code yX4_in cX4_in 3 (some .boolean)]
def wsX4_told_r2 : List Cond := [Cond.methodLink RX4 41 yX4_isLoose, Cond.instanceMethod yX4_isLoose, Cond.selects RX4 yX4_isLoose yX4_isLoose, Cond.code yX4_isLoose cX4_isLoose 5 (some .boolean), Cond.methodLink RX4 44 yX4_movesTo, Cond.instanceMethod yX4_movesTo, Cond.selects RX4 yX4_movesTo yX4_movesTo, Cond.code yX4_movesTo cX4_movesTo 4 (some .int), Cond.methodLink RX4 37 yX4_size, Cond.static yX4_size, Cond.code yX4_size cX4_size 1 (some .int)]
def wsX4_told : List Cond := .code yX4_told cX4_told 3 (some .int) :: ((wsX4_told_r1 ++ wsX4_told_r2) ++ wsX40)
def wsX4_rod_r1 : List Cond := [Cond.methodLink RX4 84 yX4_isRod, Cond.static yX4_isRod, Cond.initialized RX4, Cond.code yX4_isRod cX4_isRod 1 (some .boolean), Cond.methodLink RX4 26 yX4_in, Cond.static yX4_in, Cond.code yX4_in cX4_in 3 (some .boolean), Cond.methodLink RX4 87 yX4_holds, Cond.instanceMethod yX4_holds, Cond.selects RX4 yX4_holds yX4_holds, Cond.code yX4_holds cX4_holds 2 (some .boolean), Cond.fieldLink RX4 22 "StuckRodsModel" "thrown" "I", Cond.methodLink RX4 124 yX4_told, Cond.instanceMethod yX4_told, Cond.selects RX4 yX4_told yX4_told, Cond.code yX4_told cX4_told 3 (some .int), Cond.fieldLink RX4 7 "StuckRodsModel" "s" "[I", Cond.methodLink RX4 33 yX4_of, Cond.static yX4_of, Cond.code yX4_of cX4_of 2 (some .int), Cond.methodLink RX4 54 yX4_shows, Cond.instanceMethod yX4_shows, Cond.selects RX4 yX4_shows yX4_shows, Cond.code yX4_shows cX4_shows 2 (some .int)]
def wsX4_rod_r2 : List Cond := [Cond.methodLink RX4 121 yX4_numbers, Cond.instanceMethod yX4_numbers, Cond.selects RX4 yX4_numbers yX4_numbers, Cond.code yX4_numbers cX4_numbers 4 (some .int), Cond.methodLink RX4 57 yX4_can, Cond.instanceMethod yX4_can, Cond.selects RX4 yX4_can yX4_can, Cond.code yX4_can cX4_can 3 (some .boolean), Cond.methodLink RX4 48 yX4_fivesFor, Cond.instanceMethod yX4_fivesFor, Cond.selects RX4 yX4_fivesFor yX4_fivesFor, Cond.code yX4_fivesFor cX4_fivesFor 7 (some .int), Cond.methodLink RX4 41 yX4_isLoose, Cond.instanceMethod yX4_isLoose, Cond.selects RX4 yX4_isLoose yX4_isLoose, Cond.code yX4_isLoose cX4_isLoose 5 (some .boolean), Cond.methodLink RX4 44 yX4_movesTo, Cond.instanceMethod yX4_movesTo, Cond.selects RX4 yX4_movesTo yX4_movesTo, Cond.code yX4_movesTo cX4_movesTo 4 (some .int), Cond.methodLink RX4 37 yX4_size, Cond.static yX4_size, Cond.code yX4_size cX4_size 1 (some .int)]
def wsX4_rod : List Cond := .code yX4_rod cX4_rod 3 (some .int) :: ((wsX4_rod_r1 ++ wsX4_rod_r2) ++ wsX40)
def wsX4_all : List Cond := .code yX4_all cX4_all 4 (some .long) :: ([.constantLong RX4 127 (10), .fieldLink RX4 7 "StuckRodsModel" "s" "[I", .methodLink RX4 54 yX4_shows, .instanceMethod yX4_shows, .selects RX4 yX4_shows yX4_shows, .initialized RX4, .code yX4_shows cX4_shows 2 (some .int), .methodLink RX4 33 yX4_of, .static yX4_of, .code yX4_of cX4_of 2 (some .int)] ++ wsX40)
def wsX4_whole : List Cond := .code yX4_whole cX4_whole 1 (some .long) :: ([.fieldLink RX4 22 "StuckRodsModel" "thrown" "I", .methodLink RX4 129 yX4_all, .instanceMethod yX4_all, .selects RX4 yX4_all yX4_all, .initialized RX4, .code yX4_all cX4_all 4 (some .long), .constantLong RX4 127 (10), .fieldLink RX4 7 "StuckRodsModel" "s" "[I", .methodLink RX4 54 yX4_shows, .instanceMethod yX4_shows, .selects RX4 yX4_shows yX4_shows, .code yX4_shows cX4_shows 2 (some .int), .methodLink RX4 33 yX4_of, .static yX4_of, .code yX4_of cX4_of 2 (some .int)] ++ wsX40)
def wsX4_sum : List Cond := .code yX4_sum cX4_sum 5 (some .int) :: ([.fieldLink RX4 7 "StuckRodsModel" "s" "[I", .methodLink RX4 33 yX4_of, .static yX4_of, .initialized RX4, .code yX4_of cX4_of 2 (some .int), .methodLink RX4 54 yX4_shows, .instanceMethod yX4_shows, .selects RX4 yX4_shows yX4_shows, .code yX4_shows cX4_shows 2 (some .int)] ++ wsX40)
def wsX4_counted : List Cond := .code yX4_counted cX4_counted 2 (some .int) :: ([.fieldLink RX4 7 "StuckRodsModel" "s" "[I", .fieldLink RX4 30 "StuckRodsModel" "savedMany" "I", .methodLink RX4 96 yX4_allMoves, .instanceMethod yX4_allMoves, .selects RX4 yX4_allMoves yX4_allMoves, .initialized RX4, .code yX4_allMoves cX4_allMoves 3 (some .int), .methodLink RX4 33 yX4_of, .static yX4_of, .code yX4_of cX4_of 2 (some .int), .methodLink RX4 133 yX4_sum, .instanceMethod yX4_sum, .selects RX4 yX4_sum yX4_sum, .code yX4_sum cX4_sum 5 (some .int), .methodLink RX4 54 yX4_shows, .instanceMethod yX4_shows, .selects RX4 yX4_shows yX4_shows, .code yX4_shows cX4_shows 2 (some .int)] ++ wsX40)
def wsX4_count_r1 : List Cond := [Cond.methodLink RX4 26 yX4_in, Cond.static yX4_in, Cond.initialized RX4, Cond.code yX4_in cX4_in 3 (some .boolean), Cond.methodLink RX4 87 yX4_holds, Cond.instanceMethod yX4_holds, Cond.selects RX4 yX4_holds yX4_holds, Cond.code yX4_holds cX4_holds 2 (some .boolean), Cond.fieldLink RX4 22 "StuckRodsModel" "thrown" "I", Cond.methodLink RX4 136 yX4_counted, Cond.instanceMethod yX4_counted, Cond.selects RX4 yX4_counted yX4_counted, Cond.code yX4_counted cX4_counted 2 (some .int), Cond.fieldLink RX4 7 "StuckRodsModel" "s" "[I", Cond.fieldLink RX4 30 "StuckRodsModel" "savedMany" "I", Cond.methodLink RX4 96 yX4_allMoves, Cond.instanceMethod yX4_allMoves, Cond.selects RX4 yX4_allMoves yX4_allMoves, Cond.code yX4_allMoves cX4_allMoves 3 (some .int), Cond.methodLink RX4 33 yX4_of, Cond.static yX4_of, Cond.code yX4_of cX4_of 2 (some .int), Cond.methodLink RX4 133 yX4_sum, Cond.instanceMethod yX4_sum]
def wsX4_count_r2 : List Cond := [Cond.selects RX4 yX4_sum yX4_sum, Cond.code yX4_sum cX4_sum 5 (some .int), Cond.methodLink RX4 54 yX4_shows, Cond.instanceMethod yX4_shows, Cond.selects RX4 yX4_shows yX4_shows, Cond.code yX4_shows cX4_shows 2 (some .int)]
def wsX4_count : List Cond := .code yX4_count cX4_count 2 (some .int) :: ((wsX4_count_r1 ++ wsX4_count_r2) ++ wsX40)
def wsX4_movesFor : List Cond := .code yX4_movesFor cX4_movesFor 4 (some .int) :: ([.methodLink RX4 48 yX4_fivesFor, .instanceMethod yX4_fivesFor, .selects RX4 yX4_fivesFor yX4_fivesFor, .initialized RX4, .code yX4_fivesFor cX4_fivesFor 7 (some .int), .methodLink RX4 26 yX4_in, .static yX4_in, .code yX4_in cX4_in 3 (some .boolean), .methodLink RX4 41 yX4_isLoose, .instanceMethod yX4_isLoose, .selects RX4 yX4_isLoose yX4_isLoose, .code yX4_isLoose cX4_isLoose 5 (some .boolean), .fieldLink RX4 7 "StuckRodsModel" "s" "[I", .methodLink RX4 33 yX4_of, .static yX4_of, .code yX4_of cX4_of 2 (some .int), .methodLink RX4 44 yX4_movesTo, .instanceMethod yX4_movesTo, .selects RX4 yX4_movesTo yX4_movesTo, .code yX4_movesTo cX4_movesTo 4 (some .int), .methodLink RX4 37 yX4_size, .static yX4_size, .code yX4_size cX4_size 1 (some .int)] ++ wsX40)
def wsX4_moves_r1 : List Cond := [Cond.methodLink RX4 84 yX4_isRod, Cond.static yX4_isRod, Cond.initialized RX4, Cond.code yX4_isRod cX4_isRod 1 (some .boolean), Cond.methodLink RX4 26 yX4_in, Cond.static yX4_in, Cond.code yX4_in cX4_in 3 (some .boolean), Cond.methodLink RX4 87 yX4_holds, Cond.instanceMethod yX4_holds, Cond.selects RX4 yX4_holds yX4_holds, Cond.code yX4_holds cX4_holds 2 (some .boolean), Cond.fieldLink RX4 22 "StuckRodsModel" "thrown" "I", Cond.methodLink RX4 139 yX4_movesFor, Cond.instanceMethod yX4_movesFor, Cond.selects RX4 yX4_movesFor yX4_movesFor, Cond.code yX4_movesFor cX4_movesFor 4 (some .int), Cond.methodLink RX4 48 yX4_fivesFor, Cond.instanceMethod yX4_fivesFor, Cond.selects RX4 yX4_fivesFor yX4_fivesFor, Cond.code yX4_fivesFor cX4_fivesFor 7 (some .int), Cond.methodLink RX4 41 yX4_isLoose, Cond.instanceMethod yX4_isLoose, Cond.selects RX4 yX4_isLoose yX4_isLoose, Cond.code yX4_isLoose cX4_isLoose 5 (some .boolean)]
def wsX4_moves_r2 : List Cond := [Cond.fieldLink RX4 7 "StuckRodsModel" "s" "[I", Cond.methodLink RX4 33 yX4_of, Cond.static yX4_of, Cond.code yX4_of cX4_of 2 (some .int), Cond.methodLink RX4 44 yX4_movesTo, Cond.instanceMethod yX4_movesTo, Cond.selects RX4 yX4_movesTo yX4_movesTo, Cond.code yX4_movesTo cX4_movesTo 4 (some .int), Cond.methodLink RX4 37 yX4_size, Cond.static yX4_size, Cond.code yX4_size cX4_size 1 (some .int)]
def wsX4_moves : List Cond := .code yX4_moves cX4_moves 3 (some .int) :: ((wsX4_moves_r1 ++ wsX4_moves_r2) ++ wsX40)
def wsX4_ifAdded_r1 : List Cond := [Cond.methodLink RX4 84 yX4_isRod, Cond.static yX4_isRod, Cond.initialized RX4, Cond.code yX4_isRod cX4_isRod 1 (some .boolean), Cond.methodLink RX4 26 yX4_in, Cond.static yX4_in, Cond.code yX4_in cX4_in 3 (some .boolean), Cond.methodLink RX4 87 yX4_holds, Cond.instanceMethod yX4_holds, Cond.selects RX4 yX4_holds yX4_holds, Cond.code yX4_holds cX4_holds 2 (some .boolean), Cond.fieldLink RX4 22 "StuckRodsModel" "thrown" "I", Cond.methodLink RX4 103 yX4_takes, Cond.instanceMethod yX4_takes, Cond.selects RX4 yX4_takes yX4_takes, Cond.code yX4_takes cX4_takes 7 (some .int), Cond.methodLink RX4 96 yX4_allMoves, Cond.instanceMethod yX4_allMoves, Cond.selects RX4 yX4_allMoves yX4_allMoves, Cond.code yX4_allMoves cX4_allMoves 3 (some .int), Cond.fieldLink RX4 7 "StuckRodsModel" "s" "[I", Cond.methodLink RX4 33 yX4_of, Cond.static yX4_of, Cond.code yX4_of cX4_of 2 (some .int)]
def wsX4_ifAdded_r2 : List Cond := [Cond.methodLink RX4 100 yX4_tries, Cond.instanceMethod yX4_tries, Cond.selects RX4 yX4_tries yX4_tries, Cond.code yX4_tries cX4_tries 5 (some .boolean), Cond.methodLink RX4 71 yX4_putAside, Cond.instanceMethod yX4_putAside, Cond.selects RX4 yX4_putAside yX4_putAside, Cond.code yX4_putAside cX4_putAside 2 none, Cond.fieldLink RX4 13 "StuckRodsModel" "aside" "[I", Cond.methodLink RX4 68 yX4_adds, Cond.instanceMethod yX4_adds, Cond.selects RX4 yX4_adds yX4_adds, Cond.code yX4_adds cX4_adds 4 (some .boolean), Cond.methodLink RX4 54 yX4_shows, Cond.instanceMethod yX4_shows, Cond.selects RX4 yX4_shows yX4_shows, Cond.code yX4_shows cX4_shows 2 (some .int), Cond.methodLink RX4 57 yX4_can, Cond.instanceMethod yX4_can, Cond.selects RX4 yX4_can yX4_can, Cond.code yX4_can cX4_can 3 (some .boolean), Cond.methodLink RX4 48 yX4_fivesFor, Cond.instanceMethod yX4_fivesFor, Cond.selects RX4 yX4_fivesFor yX4_fivesFor]
def wsX4_ifAdded_r3 : List Cond := [Cond.code yX4_fivesFor cX4_fivesFor 7 (some .int), Cond.methodLink RX4 41 yX4_isLoose, Cond.instanceMethod yX4_isLoose, Cond.selects RX4 yX4_isLoose yX4_isLoose, Cond.code yX4_isLoose cX4_isLoose 5 (some .boolean), Cond.methodLink RX4 44 yX4_movesTo, Cond.instanceMethod yX4_movesTo, Cond.selects RX4 yX4_movesTo yX4_movesTo, Cond.code yX4_movesTo cX4_movesTo 4 (some .int), Cond.methodLink RX4 37 yX4_size, Cond.static yX4_size, Cond.code yX4_size cX4_size 1 (some .int), Cond.methodLink RX4 61 yX4_comes, Cond.instanceMethod yX4_comes, Cond.selects RX4 yX4_comes yX4_comes, Cond.code yX4_comes cX4_comes 5 none, Cond.methodLink RX4 51 yX4_movesBeads, Cond.instanceMethod yX4_movesBeads, Cond.selects RX4 yX4_movesBeads yX4_movesBeads, Cond.code yX4_movesBeads cX4_movesBeads 5 (some .int), Cond.methodLink RX4 65 yX4_carries, Cond.instanceMethod yX4_carries, Cond.selects RX4 yX4_carries yX4_carries, Cond.code yX4_carries cX4_carries 4 (some .boolean)]
def wsX4_ifAdded_r4 : List Cond := [Cond.methodLink RX4 74 yX4_pays, Cond.instanceMethod yX4_pays, Cond.selects RX4 yX4_pays yX4_pays, Cond.code yX4_pays cX4_pays 3 (some .boolean), Cond.methodLink RX4 78 yX4_orders, Cond.instanceMethod yX4_orders, Cond.selects RX4 yX4_orders yX4_orders, Cond.code yX4_orders cX4_orders 2 (some .boolean), Cond.methodLink RX4 81 yX4_putBack, Cond.instanceMethod yX4_putBack, Cond.selects RX4 yX4_putBack yX4_putBack, Cond.code yX4_putBack cX4_putBack 2 none]
def wsX4_ifAdded : List Cond := .code yX4_ifAdded cX4_ifAdded 3 (some .int) :: ((wsX4_ifAdded_r1 ++ (wsX4_ifAdded_r2 ++ (wsX4_ifAdded_r3 ++ wsX4_ifAdded_r4))) ++ wsX40)
def wsX4_showing_r1 : List Cond := [Cond.methodLink RX4 139 yX4_movesFor, Cond.instanceMethod yX4_movesFor, Cond.selects RX4 yX4_movesFor yX4_movesFor, Cond.initialized RX4, Cond.code yX4_movesFor cX4_movesFor 4 (some .int), Cond.methodLink RX4 48 yX4_fivesFor, Cond.instanceMethod yX4_fivesFor, Cond.selects RX4 yX4_fivesFor yX4_fivesFor, Cond.code yX4_fivesFor cX4_fivesFor 7 (some .int), Cond.methodLink RX4 26 yX4_in, Cond.static yX4_in, Cond.code yX4_in cX4_in 3 (some .boolean), Cond.methodLink RX4 41 yX4_isLoose, Cond.instanceMethod yX4_isLoose, Cond.selects RX4 yX4_isLoose yX4_isLoose, Cond.code yX4_isLoose cX4_isLoose 5 (some .boolean), Cond.fieldLink RX4 7 "StuckRodsModel" "s" "[I", Cond.methodLink RX4 33 yX4_of, Cond.static yX4_of, Cond.code yX4_of cX4_of 2 (some .int), Cond.methodLink RX4 44 yX4_movesTo, Cond.instanceMethod yX4_movesTo, Cond.selects RX4 yX4_movesTo yX4_movesTo, Cond.code yX4_movesTo cX4_movesTo 4 (some .int)]
def wsX4_showing_r2 : List Cond := [Cond.methodLink RX4 37 yX4_size, Cond.static yX4_size, Cond.code yX4_size cX4_size 1 (some .int)]
def wsX4_showing : List Cond := .code yX4_showing cX4_showing 7 (some .int) :: ((wsX4_showing_r1 ++ wsX4_showing_r2) ++ wsX40)
def wsX4_toShow_r1 : List Cond := [Cond.constant RX4 142 (999999999), Cond.methodLink RX4 26 yX4_in, Cond.static yX4_in, Cond.initialized RX4, Cond.code yX4_in cX4_in 3 (some .boolean), Cond.methodLink RX4 87 yX4_holds, Cond.instanceMethod yX4_holds, Cond.selects RX4 yX4_holds yX4_holds, Cond.code yX4_holds cX4_holds 2 (some .boolean), Cond.fieldLink RX4 22 "StuckRodsModel" "thrown" "I", Cond.methodLink RX4 143 yX4_showing, Cond.instanceMethod yX4_showing, Cond.selects RX4 yX4_showing yX4_showing, Cond.code yX4_showing cX4_showing 7 (some .int), Cond.methodLink RX4 139 yX4_movesFor, Cond.instanceMethod yX4_movesFor, Cond.selects RX4 yX4_movesFor yX4_movesFor, Cond.code yX4_movesFor cX4_movesFor 4 (some .int), Cond.methodLink RX4 48 yX4_fivesFor, Cond.instanceMethod yX4_fivesFor, Cond.selects RX4 yX4_fivesFor yX4_fivesFor, Cond.code yX4_fivesFor cX4_fivesFor 7 (some .int), Cond.methodLink RX4 41 yX4_isLoose, Cond.instanceMethod yX4_isLoose]
def wsX4_toShow_r2 : List Cond := [Cond.selects RX4 yX4_isLoose yX4_isLoose, Cond.code yX4_isLoose cX4_isLoose 5 (some .boolean), Cond.fieldLink RX4 7 "StuckRodsModel" "s" "[I", Cond.methodLink RX4 33 yX4_of, Cond.static yX4_of, Cond.code yX4_of cX4_of 2 (some .int), Cond.methodLink RX4 44 yX4_movesTo, Cond.instanceMethod yX4_movesTo, Cond.selects RX4 yX4_movesTo yX4_movesTo, Cond.code yX4_movesTo cX4_movesTo 4 (some .int), Cond.methodLink RX4 37 yX4_size, Cond.static yX4_size, Cond.code yX4_size cX4_size 1 (some .int)]
def wsX4_toShow : List Cond := .code yX4_toShow cX4_toShow 2 (some .int) :: ((wsX4_toShow_r1 ++ wsX4_toShow_r2) ++ wsX40)
def wsX4_cheapest_r1 : List Cond := [Cond.fieldLink RX4 7 "StuckRodsModel" "s" "[I", Cond.methodLink RX4 33 yX4_of, Cond.static yX4_of, Cond.initialized RX4, Cond.code yX4_of cX4_of 2 (some .int), Cond.methodLink RX4 103 yX4_takes, Cond.instanceMethod yX4_takes, Cond.selects RX4 yX4_takes yX4_takes, Cond.code yX4_takes cX4_takes 7 (some .int), Cond.methodLink RX4 96 yX4_allMoves, Cond.instanceMethod yX4_allMoves, Cond.selects RX4 yX4_allMoves yX4_allMoves, Cond.code yX4_allMoves cX4_allMoves 3 (some .int), Cond.methodLink RX4 100 yX4_tries, Cond.instanceMethod yX4_tries, Cond.selects RX4 yX4_tries yX4_tries, Cond.code yX4_tries cX4_tries 5 (some .boolean), Cond.methodLink RX4 71 yX4_putAside, Cond.instanceMethod yX4_putAside, Cond.selects RX4 yX4_putAside yX4_putAside, Cond.code yX4_putAside cX4_putAside 2 none, Cond.fieldLink RX4 13 "StuckRodsModel" "aside" "[I", Cond.methodLink RX4 68 yX4_adds, Cond.instanceMethod yX4_adds]
def wsX4_cheapest_r2 : List Cond := [Cond.selects RX4 yX4_adds yX4_adds, Cond.code yX4_adds cX4_adds 4 (some .boolean), Cond.methodLink RX4 54 yX4_shows, Cond.instanceMethod yX4_shows, Cond.selects RX4 yX4_shows yX4_shows, Cond.code yX4_shows cX4_shows 2 (some .int), Cond.methodLink RX4 57 yX4_can, Cond.instanceMethod yX4_can, Cond.selects RX4 yX4_can yX4_can, Cond.code yX4_can cX4_can 3 (some .boolean), Cond.methodLink RX4 48 yX4_fivesFor, Cond.instanceMethod yX4_fivesFor, Cond.selects RX4 yX4_fivesFor yX4_fivesFor, Cond.code yX4_fivesFor cX4_fivesFor 7 (some .int), Cond.methodLink RX4 26 yX4_in, Cond.static yX4_in, Cond.code yX4_in cX4_in 3 (some .boolean), Cond.methodLink RX4 41 yX4_isLoose, Cond.instanceMethod yX4_isLoose, Cond.selects RX4 yX4_isLoose yX4_isLoose, Cond.code yX4_isLoose cX4_isLoose 5 (some .boolean), Cond.methodLink RX4 44 yX4_movesTo, Cond.instanceMethod yX4_movesTo, Cond.selects RX4 yX4_movesTo yX4_movesTo]
def wsX4_cheapest_r3 : List Cond := [Cond.code yX4_movesTo cX4_movesTo 4 (some .int), Cond.methodLink RX4 37 yX4_size, Cond.static yX4_size, Cond.code yX4_size cX4_size 1 (some .int), Cond.methodLink RX4 61 yX4_comes, Cond.instanceMethod yX4_comes, Cond.selects RX4 yX4_comes yX4_comes, Cond.code yX4_comes cX4_comes 5 none, Cond.methodLink RX4 51 yX4_movesBeads, Cond.instanceMethod yX4_movesBeads, Cond.selects RX4 yX4_movesBeads yX4_movesBeads, Cond.code yX4_movesBeads cX4_movesBeads 5 (some .int), Cond.methodLink RX4 65 yX4_carries, Cond.instanceMethod yX4_carries, Cond.selects RX4 yX4_carries yX4_carries, Cond.code yX4_carries cX4_carries 4 (some .boolean), Cond.methodLink RX4 74 yX4_pays, Cond.instanceMethod yX4_pays, Cond.selects RX4 yX4_pays yX4_pays, Cond.code yX4_pays cX4_pays 3 (some .boolean), Cond.methodLink RX4 78 yX4_orders, Cond.instanceMethod yX4_orders, Cond.selects RX4 yX4_orders yX4_orders, Cond.code yX4_orders cX4_orders 2 (some .boolean)]
def wsX4_cheapest_r4 : List Cond := [Cond.methodLink RX4 81 yX4_putBack, Cond.instanceMethod yX4_putBack, Cond.selects RX4 yX4_putBack yX4_putBack, Cond.code yX4_putBack cX4_putBack 2 none]
def wsX4_cheapest : List Cond := .code yX4_cheapest cX4_cheapest 6 (some .int) :: ((wsX4_cheapest_r1 ++ (wsX4_cheapest_r2 ++ (wsX4_cheapest_r3 ++ wsX4_cheapest_r4))) ++ wsX40)
def wsX4_cheapestLoan_r1 : List Cond := [Cond.fieldLink RX4 22 "StuckRodsModel" "thrown" "I", Cond.methodLink RX4 146 yX4_cheapest, Cond.instanceMethod yX4_cheapest, Cond.selects RX4 yX4_cheapest yX4_cheapest, Cond.initialized RX4, Cond.code yX4_cheapest cX4_cheapest 6 (some .int), Cond.fieldLink RX4 7 "StuckRodsModel" "s" "[I", Cond.methodLink RX4 33 yX4_of, Cond.static yX4_of, Cond.code yX4_of cX4_of 2 (some .int), Cond.methodLink RX4 103 yX4_takes, Cond.instanceMethod yX4_takes, Cond.selects RX4 yX4_takes yX4_takes, Cond.code yX4_takes cX4_takes 7 (some .int), Cond.methodLink RX4 96 yX4_allMoves, Cond.instanceMethod yX4_allMoves, Cond.selects RX4 yX4_allMoves yX4_allMoves, Cond.code yX4_allMoves cX4_allMoves 3 (some .int), Cond.methodLink RX4 100 yX4_tries, Cond.instanceMethod yX4_tries, Cond.selects RX4 yX4_tries yX4_tries, Cond.code yX4_tries cX4_tries 5 (some .boolean), Cond.methodLink RX4 71 yX4_putAside, Cond.instanceMethod yX4_putAside]
def wsX4_cheapestLoan_r2 : List Cond := [Cond.selects RX4 yX4_putAside yX4_putAside, Cond.code yX4_putAside cX4_putAside 2 none, Cond.fieldLink RX4 13 "StuckRodsModel" "aside" "[I", Cond.methodLink RX4 68 yX4_adds, Cond.instanceMethod yX4_adds, Cond.selects RX4 yX4_adds yX4_adds, Cond.code yX4_adds cX4_adds 4 (some .boolean), Cond.methodLink RX4 54 yX4_shows, Cond.instanceMethod yX4_shows, Cond.selects RX4 yX4_shows yX4_shows, Cond.code yX4_shows cX4_shows 2 (some .int), Cond.methodLink RX4 57 yX4_can, Cond.instanceMethod yX4_can, Cond.selects RX4 yX4_can yX4_can, Cond.code yX4_can cX4_can 3 (some .boolean), Cond.methodLink RX4 48 yX4_fivesFor, Cond.instanceMethod yX4_fivesFor, Cond.selects RX4 yX4_fivesFor yX4_fivesFor, Cond.code yX4_fivesFor cX4_fivesFor 7 (some .int), Cond.methodLink RX4 26 yX4_in, Cond.static yX4_in, Cond.code yX4_in cX4_in 3 (some .boolean), Cond.methodLink RX4 41 yX4_isLoose, Cond.instanceMethod yX4_isLoose]
def wsX4_cheapestLoan_r3 : List Cond := [Cond.selects RX4 yX4_isLoose yX4_isLoose, Cond.code yX4_isLoose cX4_isLoose 5 (some .boolean), Cond.methodLink RX4 44 yX4_movesTo, Cond.instanceMethod yX4_movesTo, Cond.selects RX4 yX4_movesTo yX4_movesTo, Cond.code yX4_movesTo cX4_movesTo 4 (some .int), Cond.methodLink RX4 37 yX4_size, Cond.static yX4_size, Cond.code yX4_size cX4_size 1 (some .int), Cond.methodLink RX4 61 yX4_comes, Cond.instanceMethod yX4_comes, Cond.selects RX4 yX4_comes yX4_comes, Cond.code yX4_comes cX4_comes 5 none, Cond.methodLink RX4 51 yX4_movesBeads, Cond.instanceMethod yX4_movesBeads, Cond.selects RX4 yX4_movesBeads yX4_movesBeads, Cond.code yX4_movesBeads cX4_movesBeads 5 (some .int), Cond.methodLink RX4 65 yX4_carries, Cond.instanceMethod yX4_carries, Cond.selects RX4 yX4_carries yX4_carries, Cond.code yX4_carries cX4_carries 4 (some .boolean), Cond.methodLink RX4 74 yX4_pays, Cond.instanceMethod yX4_pays, Cond.selects RX4 yX4_pays yX4_pays]
def wsX4_cheapestLoan_r4 : List Cond := [Cond.code yX4_pays cX4_pays 3 (some .boolean), Cond.methodLink RX4 78 yX4_orders, Cond.instanceMethod yX4_orders, Cond.selects RX4 yX4_orders yX4_orders, Cond.code yX4_orders cX4_orders 2 (some .boolean), Cond.methodLink RX4 81 yX4_putBack, Cond.instanceMethod yX4_putBack, Cond.selects RX4 yX4_putBack yX4_putBack, Cond.code yX4_putBack cX4_putBack 2 none]
def wsX4_cheapestLoan : List Cond := .code yX4_cheapestLoan cX4_cheapestLoan 1 (some .int) :: ((wsX4_cheapestLoan_r1 ++ (wsX4_cheapestLoan_r2 ++ (wsX4_cheapestLoan_r3 ++ wsX4_cheapestLoan_r4))) ++ wsX40)
def wsX4_loose_r1 : List Cond := [Cond.constantDouble RX4 149 (4639270566145032192), Cond.methodLink RX4 121 yX4_numbers, Cond.instanceMethod yX4_numbers, Cond.selects RX4 yX4_numbers yX4_numbers, Cond.initialized RX4, Cond.code yX4_numbers cX4_numbers 4 (some .int), Cond.methodLink RX4 57 yX4_can, Cond.instanceMethod yX4_can, Cond.selects RX4 yX4_can yX4_can, Cond.code yX4_can cX4_can 3 (some .boolean), Cond.methodLink RX4 48 yX4_fivesFor, Cond.instanceMethod yX4_fivesFor, Cond.selects RX4 yX4_fivesFor yX4_fivesFor, Cond.code yX4_fivesFor cX4_fivesFor 7 (some .int), Cond.methodLink RX4 26 yX4_in, Cond.static yX4_in, Cond.code yX4_in cX4_in 3 (some .boolean), Cond.methodLink RX4 41 yX4_isLoose, Cond.instanceMethod yX4_isLoose, Cond.selects RX4 yX4_isLoose yX4_isLoose, Cond.code yX4_isLoose cX4_isLoose 5 (some .boolean), Cond.fieldLink RX4 7 "StuckRodsModel" "s" "[I", Cond.methodLink RX4 33 yX4_of, Cond.static yX4_of]
def wsX4_loose_r2 : List Cond := [Cond.code yX4_of cX4_of 2 (some .int), Cond.methodLink RX4 44 yX4_movesTo, Cond.instanceMethod yX4_movesTo, Cond.selects RX4 yX4_movesTo yX4_movesTo, Cond.code yX4_movesTo cX4_movesTo 4 (some .int), Cond.methodLink RX4 37 yX4_size, Cond.static yX4_size, Cond.code yX4_size cX4_size 1 (some .int)]
def wsX4_loose : List Cond := .code yX4_loose cX4_loose 3 (some .double) :: ((wsX4_loose_r1 ++ wsX4_loose_r2) ++ wsX40)
def wsX4_looseness_r1 : List Cond := [Cond.fieldLink RX4 22 "StuckRodsModel" "thrown" "I", Cond.methodLink RX4 151 yX4_loose, Cond.instanceMethod yX4_loose, Cond.selects RX4 yX4_loose yX4_loose, Cond.initialized RX4, Cond.code yX4_loose cX4_loose 3 (some .double), Cond.constantDouble RX4 149 (4639270566145032192), Cond.methodLink RX4 121 yX4_numbers, Cond.instanceMethod yX4_numbers, Cond.selects RX4 yX4_numbers yX4_numbers, Cond.code yX4_numbers cX4_numbers 4 (some .int), Cond.methodLink RX4 57 yX4_can, Cond.instanceMethod yX4_can, Cond.selects RX4 yX4_can yX4_can, Cond.code yX4_can cX4_can 3 (some .boolean), Cond.methodLink RX4 48 yX4_fivesFor, Cond.instanceMethod yX4_fivesFor, Cond.selects RX4 yX4_fivesFor yX4_fivesFor, Cond.code yX4_fivesFor cX4_fivesFor 7 (some .int), Cond.methodLink RX4 26 yX4_in, Cond.static yX4_in, Cond.code yX4_in cX4_in 3 (some .boolean), Cond.methodLink RX4 41 yX4_isLoose, Cond.instanceMethod yX4_isLoose]
def wsX4_looseness_r2 : List Cond := [Cond.selects RX4 yX4_isLoose yX4_isLoose, Cond.code yX4_isLoose cX4_isLoose 5 (some .boolean), Cond.fieldLink RX4 7 "StuckRodsModel" "s" "[I", Cond.methodLink RX4 33 yX4_of, Cond.static yX4_of, Cond.code yX4_of cX4_of 2 (some .int), Cond.methodLink RX4 44 yX4_movesTo, Cond.instanceMethod yX4_movesTo, Cond.selects RX4 yX4_movesTo yX4_movesTo, Cond.code yX4_movesTo cX4_movesTo 4 (some .int), Cond.methodLink RX4 37 yX4_size, Cond.static yX4_size, Cond.code yX4_size cX4_size 1 (some .int)]
def wsX4_looseness : List Cond := .code yX4_looseness cX4_looseness 1 (some .double) :: ((wsX4_looseness_r1 ++ wsX4_looseness_r2) ++ wsX40)
def wsX4_bitsOf : List Cond := .code yX4_bitsOf cX4_bitsOf 6 (some .long) :: ([.constantLong RX4 155 (1023), .constantDouble RX4 157 (4611686018427387904), .constantLong RX4 159 (4503599627370496), .constantDouble RX4 161 (4841369599423283200)])
def wsX4_digestOne : List Cond := .code yX4_digestOne cX4_digestOne 3 none :: ([.constantLong RX4 163 (31), .fieldLink RX4 165 "StuckRodsModel" "digested" "J"] ++ wsX40)
def wsX4_digestRod_r1 : List Cond := [Cond.methodLink RX4 124 yX4_told, Cond.instanceMethod yX4_told, Cond.selects RX4 yX4_told yX4_told, Cond.initialized RX4, Cond.code yX4_told cX4_told 3 (some .int), Cond.fieldLink RX4 7 "StuckRodsModel" "s" "[I", Cond.methodLink RX4 33 yX4_of, Cond.static yX4_of, Cond.code yX4_of cX4_of 2 (some .int), Cond.methodLink RX4 54 yX4_shows, Cond.instanceMethod yX4_shows, Cond.selects RX4 yX4_shows yX4_shows, Cond.code yX4_shows cX4_shows 2 (some .int), Cond.methodLink RX4 121 yX4_numbers, Cond.instanceMethod yX4_numbers, Cond.selects RX4 yX4_numbers yX4_numbers, Cond.code yX4_numbers cX4_numbers 4 (some .int), Cond.methodLink RX4 57 yX4_can, Cond.instanceMethod yX4_can, Cond.selects RX4 yX4_can yX4_can, Cond.code yX4_can cX4_can 3 (some .boolean), Cond.methodLink RX4 48 yX4_fivesFor, Cond.instanceMethod yX4_fivesFor, Cond.selects RX4 yX4_fivesFor yX4_fivesFor]
def wsX4_digestRod_r2 : List Cond := [Cond.code yX4_fivesFor cX4_fivesFor 7 (some .int), Cond.methodLink RX4 26 yX4_in, Cond.static yX4_in, Cond.code yX4_in cX4_in 3 (some .boolean), Cond.methodLink RX4 41 yX4_isLoose, Cond.instanceMethod yX4_isLoose, Cond.selects RX4 yX4_isLoose yX4_isLoose, Cond.code yX4_isLoose cX4_isLoose 5 (some .boolean), Cond.methodLink RX4 44 yX4_movesTo, Cond.instanceMethod yX4_movesTo, Cond.selects RX4 yX4_movesTo yX4_movesTo, Cond.code yX4_movesTo cX4_movesTo 4 (some .int), Cond.methodLink RX4 37 yX4_size, Cond.static yX4_size, Cond.code yX4_size cX4_size 1 (some .int), Cond.methodLink RX4 169 yX4_digestOne, Cond.instanceMethod yX4_digestOne, Cond.selects RX4 yX4_digestOne yX4_digestOne, Cond.code yX4_digestOne cX4_digestOne 3 none, Cond.constantLong RX4 163 (31), Cond.fieldLink RX4 165 "StuckRodsModel" "digested" "J", Cond.methodLink RX4 139 yX4_movesFor, Cond.instanceMethod yX4_movesFor, Cond.selects RX4 yX4_movesFor yX4_movesFor]
def wsX4_digestRod_r3 : List Cond := [Cond.code yX4_movesFor cX4_movesFor 4 (some .int), Cond.methodLink RX4 103 yX4_takes, Cond.instanceMethod yX4_takes, Cond.selects RX4 yX4_takes yX4_takes, Cond.code yX4_takes cX4_takes 7 (some .int), Cond.methodLink RX4 96 yX4_allMoves, Cond.instanceMethod yX4_allMoves, Cond.selects RX4 yX4_allMoves yX4_allMoves, Cond.code yX4_allMoves cX4_allMoves 3 (some .int), Cond.methodLink RX4 100 yX4_tries, Cond.instanceMethod yX4_tries, Cond.selects RX4 yX4_tries yX4_tries, Cond.code yX4_tries cX4_tries 5 (some .boolean), Cond.methodLink RX4 71 yX4_putAside, Cond.instanceMethod yX4_putAside, Cond.selects RX4 yX4_putAside yX4_putAside, Cond.code yX4_putAside cX4_putAside 2 none, Cond.fieldLink RX4 13 "StuckRodsModel" "aside" "[I", Cond.methodLink RX4 68 yX4_adds, Cond.instanceMethod yX4_adds, Cond.selects RX4 yX4_adds yX4_adds, Cond.code yX4_adds cX4_adds 4 (some .boolean), Cond.methodLink RX4 61 yX4_comes, Cond.instanceMethod yX4_comes]
def wsX4_digestRod_r4 : List Cond := [Cond.selects RX4 yX4_comes yX4_comes, Cond.code yX4_comes cX4_comes 5 none, Cond.methodLink RX4 51 yX4_movesBeads, Cond.instanceMethod yX4_movesBeads, Cond.selects RX4 yX4_movesBeads yX4_movesBeads, Cond.code yX4_movesBeads cX4_movesBeads 5 (some .int), Cond.methodLink RX4 65 yX4_carries, Cond.instanceMethod yX4_carries, Cond.selects RX4 yX4_carries yX4_carries, Cond.code yX4_carries cX4_carries 4 (some .boolean), Cond.methodLink RX4 74 yX4_pays, Cond.instanceMethod yX4_pays, Cond.selects RX4 yX4_pays yX4_pays, Cond.code yX4_pays cX4_pays 3 (some .boolean), Cond.methodLink RX4 78 yX4_orders, Cond.instanceMethod yX4_orders, Cond.selects RX4 yX4_orders yX4_orders, Cond.code yX4_orders cX4_orders 2 (some .boolean), Cond.methodLink RX4 81 yX4_putBack, Cond.instanceMethod yX4_putBack, Cond.selects RX4 yX4_putBack yX4_putBack, Cond.code yX4_putBack cX4_putBack 2 none]
def wsX4_digestRod : List Cond := .code yX4_digestRod cX4_digestRod 3 none :: ((wsX4_digestRod_r1 ++ (wsX4_digestRod_r2 ++ (wsX4_digestRod_r3 ++ wsX4_digestRod_r4))) ++ wsX40)
def wsX4_digest_r1 : List Cond := [Cond.fieldLink RX4 22 "StuckRodsModel" "thrown" "I", Cond.constantLong RX4 173 (3299), Cond.fieldLink RX4 165 "StuckRodsModel" "digested" "J", Cond.constant RX4 179 (123456789), Cond.fieldLink RX4 109 "StuckRodsModel" "length" "I", Cond.fieldLink RX4 19 "StuckRodsModel" "text" "[I", Cond.methodLink RX4 136 yX4_counted, Cond.instanceMethod yX4_counted, Cond.selects RX4 yX4_counted yX4_counted, Cond.initialized RX4, Cond.code yX4_counted cX4_counted 2 (some .int), Cond.fieldLink RX4 7 "StuckRodsModel" "s" "[I", Cond.fieldLink RX4 30 "StuckRodsModel" "savedMany" "I", Cond.methodLink RX4 96 yX4_allMoves, Cond.instanceMethod yX4_allMoves, Cond.selects RX4 yX4_allMoves yX4_allMoves, Cond.code yX4_allMoves cX4_allMoves 3 (some .int), Cond.methodLink RX4 33 yX4_of, Cond.static yX4_of, Cond.code yX4_of cX4_of 2 (some .int), Cond.methodLink RX4 133 yX4_sum, Cond.instanceMethod yX4_sum, Cond.selects RX4 yX4_sum yX4_sum, Cond.code yX4_sum cX4_sum 5 (some .int)]
def wsX4_digest_r2 : List Cond := [Cond.methodLink RX4 54 yX4_shows, Cond.instanceMethod yX4_shows, Cond.selects RX4 yX4_shows yX4_shows, Cond.code yX4_shows cX4_shows 2 (some .int), Cond.methodLink RX4 169 yX4_digestOne, Cond.instanceMethod yX4_digestOne, Cond.selects RX4 yX4_digestOne yX4_digestOne, Cond.code yX4_digestOne cX4_digestOne 3 none, Cond.constantLong RX4 163 (31), Cond.methodLink RX4 129 yX4_all, Cond.instanceMethod yX4_all, Cond.selects RX4 yX4_all yX4_all, Cond.code yX4_all cX4_all 4 (some .long), Cond.constantLong RX4 127 (10), Cond.methodLink RX4 175 yX4_digestRod, Cond.instanceMethod yX4_digestRod, Cond.selects RX4 yX4_digestRod yX4_digestRod, Cond.code yX4_digestRod cX4_digestRod 3 none, Cond.methodLink RX4 124 yX4_told, Cond.instanceMethod yX4_told, Cond.selects RX4 yX4_told yX4_told, Cond.code yX4_told cX4_told 3 (some .int), Cond.methodLink RX4 121 yX4_numbers, Cond.instanceMethod yX4_numbers]
def wsX4_digest_r3 : List Cond := [Cond.selects RX4 yX4_numbers yX4_numbers, Cond.code yX4_numbers cX4_numbers 4 (some .int), Cond.methodLink RX4 57 yX4_can, Cond.instanceMethod yX4_can, Cond.selects RX4 yX4_can yX4_can, Cond.code yX4_can cX4_can 3 (some .boolean), Cond.methodLink RX4 48 yX4_fivesFor, Cond.instanceMethod yX4_fivesFor, Cond.selects RX4 yX4_fivesFor yX4_fivesFor, Cond.code yX4_fivesFor cX4_fivesFor 7 (some .int), Cond.methodLink RX4 26 yX4_in, Cond.static yX4_in, Cond.code yX4_in cX4_in 3 (some .boolean), Cond.methodLink RX4 41 yX4_isLoose, Cond.instanceMethod yX4_isLoose, Cond.selects RX4 yX4_isLoose yX4_isLoose, Cond.code yX4_isLoose cX4_isLoose 5 (some .boolean), Cond.methodLink RX4 44 yX4_movesTo, Cond.instanceMethod yX4_movesTo, Cond.selects RX4 yX4_movesTo yX4_movesTo, Cond.code yX4_movesTo cX4_movesTo 4 (some .int), Cond.methodLink RX4 37 yX4_size, Cond.static yX4_size, Cond.code yX4_size cX4_size 1 (some .int)]
def wsX4_digest_r4 : List Cond := [Cond.methodLink RX4 139 yX4_movesFor, Cond.instanceMethod yX4_movesFor, Cond.selects RX4 yX4_movesFor yX4_movesFor, Cond.code yX4_movesFor cX4_movesFor 4 (some .int), Cond.methodLink RX4 103 yX4_takes, Cond.instanceMethod yX4_takes, Cond.selects RX4 yX4_takes yX4_takes, Cond.code yX4_takes cX4_takes 7 (some .int), Cond.methodLink RX4 100 yX4_tries, Cond.instanceMethod yX4_tries, Cond.selects RX4 yX4_tries yX4_tries, Cond.code yX4_tries cX4_tries 5 (some .boolean), Cond.methodLink RX4 71 yX4_putAside, Cond.instanceMethod yX4_putAside, Cond.selects RX4 yX4_putAside yX4_putAside, Cond.code yX4_putAside cX4_putAside 2 none, Cond.fieldLink RX4 13 "StuckRodsModel" "aside" "[I", Cond.methodLink RX4 68 yX4_adds, Cond.instanceMethod yX4_adds, Cond.selects RX4 yX4_adds yX4_adds, Cond.code yX4_adds cX4_adds 4 (some .boolean), Cond.methodLink RX4 61 yX4_comes, Cond.instanceMethod yX4_comes, Cond.selects RX4 yX4_comes yX4_comes]
def wsX4_digest_r5 : List Cond := [Cond.code yX4_comes cX4_comes 5 none, Cond.methodLink RX4 51 yX4_movesBeads, Cond.instanceMethod yX4_movesBeads, Cond.selects RX4 yX4_movesBeads yX4_movesBeads, Cond.code yX4_movesBeads cX4_movesBeads 5 (some .int), Cond.methodLink RX4 65 yX4_carries, Cond.instanceMethod yX4_carries, Cond.selects RX4 yX4_carries yX4_carries, Cond.code yX4_carries cX4_carries 4 (some .boolean), Cond.methodLink RX4 74 yX4_pays, Cond.instanceMethod yX4_pays, Cond.selects RX4 yX4_pays yX4_pays, Cond.code yX4_pays cX4_pays 3 (some .boolean), Cond.methodLink RX4 78 yX4_orders, Cond.instanceMethod yX4_orders, Cond.selects RX4 yX4_orders yX4_orders, Cond.code yX4_orders cX4_orders 2 (some .boolean), Cond.methodLink RX4 81 yX4_putBack, Cond.instanceMethod yX4_putBack, Cond.selects RX4 yX4_putBack yX4_putBack, Cond.code yX4_putBack cX4_putBack 2 none, Cond.methodLink RX4 143 yX4_showing, Cond.instanceMethod yX4_showing, Cond.selects RX4 yX4_showing yX4_showing]
def wsX4_digest_r6 : List Cond := [Cond.code yX4_showing cX4_showing 7 (some .int), Cond.methodLink RX4 146 yX4_cheapest, Cond.instanceMethod yX4_cheapest, Cond.selects RX4 yX4_cheapest yX4_cheapest, Cond.code yX4_cheapest cX4_cheapest 6 (some .int), Cond.methodLink RX4 151 yX4_loose, Cond.instanceMethod yX4_loose, Cond.selects RX4 yX4_loose yX4_loose, Cond.code yX4_loose cX4_loose 3 (some .double), Cond.constantDouble RX4 149 (4639270566145032192), Cond.methodLink RX4 180 yX4_bitsOf, Cond.static yX4_bitsOf, Cond.code yX4_bitsOf cX4_bitsOf 6 (some .long), Cond.constantLong RX4 155 (1023), Cond.constantDouble RX4 157 (4611686018427387904), Cond.constantLong RX4 159 (4503599627370496), Cond.constantDouble RX4 161 (4841369599423283200)]
def wsX4_digest : List Cond := .code yX4_digest cX4_digest 2 (some .long) :: ((wsX4_digest_r1 ++ (wsX4_digest_r2 ++ (wsX4_digest_r3 ++ (wsX4_digest_r4 ++ (wsX4_digest_r5 ++ wsX4_digest_r6))))) ++ wsX40)
def wsJ9_abs_0f7a4 : List Cond := .code yJ9_abs_0f7a4 cJ9_abs_0f7a4 1 (some .int) :: ([])
def wsL_move_r1 : List Cond := [Cond.classLink RL 13 "java/lang/IndexOutOfBoundsException", Cond.classLink RL 15 "java/lang/IllegalArgumentException", Cond.classLink RL 17 "java/lang/IllegalStateException", Cond.methodLink RL 7 yX3_move, Cond.instanceMethod yX3_move, Cond.selects RX3 yX3_move yX3_move, Cond.initialized RX3, Cond.code yX3_move cX3_move 5 (some .int), Cond.classLink RX3 42 "java/lang/IllegalStateException", Cond.initialized "java/lang/IllegalStateException", Cond.fieldLink RX3 12 "StuckRods" "board" "LStuckRods$Board;", Cond.fieldLink RX3 19 "StuckRods" "history" "LStuckRods$History;", Cond.methodLink RX3 30 yX3_checkRod, Cond.static yX3_checkRod, Cond.code yX3_checkRod cX3_checkRod 1 none, Cond.classLink RX3 210 "java/lang/IndexOutOfBoundsException", Cond.initialized "java/lang/IndexOutOfBoundsException", Cond.methodLink RX3 34 yX3_checkRange, Cond.static yX3_checkRange, Cond.code yX3_checkRange cX3_checkRange 3 none, Cond.classLink RX3 101 "java/lang/IllegalArgumentException", Cond.initialized "java/lang/IllegalArgumentException", Cond.methodLink RX3 38 yX0_movesBy, Cond.instanceMethod yX0_movesBy]
def wsL_move_r2 : List Cond := [Cond.selects RX0 yX0_movesBy yX0_movesBy, Cond.initialized RX0, Cond.code yX0_movesBy cX0_movesBy 6 (some .int), Cond.fieldLink RX0 9 "StuckRods$Board" "fives" "[I", Cond.methodLink RX0 34 Lib.Math.abs.name, Cond.static Lib.Math.abs.name, Cond.initialized "java/lang/Math", Cond.code Lib.Math.abs.name Lib.Math.abs.code 1 (some .int), Cond.fieldLink RX0 15 "StuckRods$Board" "ones" "[I", Cond.fieldLink RX0 18 "StuckRods$Board" "stuck" "[I", Cond.methodLink RX3 49 yX1_keep, Cond.instanceMethod yX1_keep, Cond.selects RX1 yX1_keep yX1_keep, Cond.initialized RX1, Cond.code yX1_keep cX1_keep 2 none, Cond.fieldLink RX1 21 "StuckRods$History" "size" "I", Cond.fieldLink RX1 17 "StuckRods$History" "oldest" "I", Cond.fieldLink RX1 11 "StuckRods$History" "slots" "[LStuckRods$Board;", Cond.methodLink RX1 25 yX0_copyFrom, Cond.instanceMethod yX0_copyFrom, Cond.selects RX0 yX0_copyFrom yX0_copyFrom, Cond.code yX0_copyFrom cX0_copyFrom 3 none, Cond.fieldLink RX0 21 "StuckRods$Board" "loan" "[I", Cond.fieldLink RX0 24 "StuckRods$Board" "moved" "[I"]
def wsL_move_r3 : List Cond := [Cond.fieldLink RX0 27 "StuckRods$Board" "borrowed" "[I", Cond.fieldLink RX0 30 "StuckRods$Board" "setting" "I", Cond.methodLink RX3 53 yX0_place, Cond.instanceMethod yX0_place, Cond.selects RX0 yX0_place yX0_place, Cond.code yX0_place cX0_place 5 none]
def wsL_move : List Cond := .codeWith yL_move cL_move 6 (some .int) [(0, 12, 15, 13), (0, 12, 19, 15), (0, 12, 23, 17)] :: ((wsL_move_r1 ++ (wsL_move_r2 ++ wsL_move_r3)) ++ wsX30 ++ wsX00 ++ wsX10 ++ (vx_atS RX3 46 "java/lang/IllegalStateException" ["java/lang/RuntimeException", "java/lang/Exception"]).filter goodWord ++ (vx_atS RX3 214 "java/lang/IndexOutOfBoundsException" ["java/lang/RuntimeException", "java/lang/Exception"]).filter goodWord ++ (vx_atS RX3 105 "java/lang/IllegalArgumentException" ["java/lang/RuntimeException", "java/lang/Exception"]).filter goodWord)
def wsL_stick_r1 : List Cond := [Cond.classLink RL 13 "java/lang/IndexOutOfBoundsException", Cond.classLink RL 15 "java/lang/IllegalArgumentException", Cond.methodLink RL 19 yX3_stick, Cond.instanceMethod yX3_stick, Cond.selects RX3 yX3_stick yX3_stick, Cond.initialized RX3, Cond.code yX3_stick cX3_stick 4 (some .int), Cond.fieldLink RX3 19 "StuckRods" "history" "LStuckRods$History;", Cond.fieldLink RX3 12 "StuckRods" "board" "LStuckRods$Board;", Cond.fieldLink RX3 57 "StuckRods$Board" "stuck" "[I", Cond.methodLink RX3 30 yX3_checkRod, Cond.static yX3_checkRod, Cond.code yX3_checkRod cX3_checkRod 1 none, Cond.classLink RX3 210 "java/lang/IndexOutOfBoundsException", Cond.initialized "java/lang/IndexOutOfBoundsException", Cond.methodLink RX3 34 yX3_checkRange, Cond.static yX3_checkRange, Cond.code yX3_checkRange cX3_checkRange 3 none, Cond.classLink RX3 101 "java/lang/IllegalArgumentException", Cond.initialized "java/lang/IllegalArgumentException", Cond.methodLink RX3 49 yX1_keep, Cond.instanceMethod yX1_keep, Cond.selects RX1 yX1_keep yX1_keep, Cond.initialized RX1]
def wsL_stick_r2 : List Cond := [Cond.code yX1_keep cX1_keep 2 none, Cond.fieldLink RX1 21 "StuckRods$History" "size" "I", Cond.fieldLink RX1 17 "StuckRods$History" "oldest" "I", Cond.fieldLink RX1 11 "StuckRods$History" "slots" "[LStuckRods$Board;", Cond.methodLink RX1 25 yX0_copyFrom, Cond.instanceMethod yX0_copyFrom, Cond.selects RX0 yX0_copyFrom yX0_copyFrom, Cond.initialized RX0, Cond.code yX0_copyFrom cX0_copyFrom 3 none, Cond.fieldLink RX0 9 "StuckRods$Board" "fives" "[I", Cond.fieldLink RX0 15 "StuckRods$Board" "ones" "[I", Cond.fieldLink RX0 18 "StuckRods$Board" "stuck" "[I", Cond.fieldLink RX0 21 "StuckRods$Board" "loan" "[I", Cond.fieldLink RX0 24 "StuckRods$Board" "moved" "[I", Cond.fieldLink RX0 27 "StuckRods$Board" "borrowed" "[I", Cond.fieldLink RX0 30 "StuckRods$Board" "setting" "I"]
def wsL_stick : List Cond := .codeWith yL_stick cL_stick 5 (some .int) [(0, 10, 13, 13), (0, 10, 17, 15)] :: ((wsL_stick_r1 ++ wsL_stick_r2) ++ wsX30 ++ wsX00 ++ wsX10 ++ (vx_atS RX3 214 "java/lang/IndexOutOfBoundsException" ["java/lang/RuntimeException", "java/lang/Exception"]).filter goodWord ++ (vx_atS RX3 105 "java/lang/IllegalArgumentException" ["java/lang/RuntimeException", "java/lang/Exception"]).filter goodWord)
def wsL_set_r1 : List Cond := [Cond.classLink RL 15 "java/lang/IllegalArgumentException", Cond.methodLink RL 23 yX3_set, Cond.instanceMethod yX3_set, Cond.selects RX3 yX3_set yX3_set, Cond.initialized RX3, Cond.code yX3_set cX3_set 3 (some .int), Cond.fieldLink RX3 19 "StuckRods" "history" "LStuckRods$History;", Cond.fieldLink RX3 12 "StuckRods" "board" "LStuckRods$Board;", Cond.fieldLink RX3 61 "StuckRods$Board" "setting" "I", Cond.methodLink RX3 34 yX3_checkRange, Cond.static yX3_checkRange, Cond.code yX3_checkRange cX3_checkRange 3 none, Cond.classLink RX3 101 "java/lang/IllegalArgumentException", Cond.initialized "java/lang/IllegalArgumentException", Cond.methodLink RX3 49 yX1_keep, Cond.instanceMethod yX1_keep, Cond.selects RX1 yX1_keep yX1_keep, Cond.initialized RX1, Cond.code yX1_keep cX1_keep 2 none, Cond.fieldLink RX1 21 "StuckRods$History" "size" "I", Cond.fieldLink RX1 17 "StuckRods$History" "oldest" "I", Cond.fieldLink RX1 11 "StuckRods$History" "slots" "[LStuckRods$Board;", Cond.methodLink RX1 25 yX0_copyFrom, Cond.instanceMethod yX0_copyFrom]
def wsL_set_r2 : List Cond := [Cond.selects RX0 yX0_copyFrom yX0_copyFrom, Cond.initialized RX0, Cond.code yX0_copyFrom cX0_copyFrom 3 none, Cond.fieldLink RX0 9 "StuckRods$Board" "fives" "[I", Cond.fieldLink RX0 15 "StuckRods$Board" "ones" "[I", Cond.fieldLink RX0 18 "StuckRods$Board" "stuck" "[I", Cond.fieldLink RX0 21 "StuckRods$Board" "loan" "[I", Cond.fieldLink RX0 24 "StuckRods$Board" "moved" "[I", Cond.fieldLink RX0 27 "StuckRods$Board" "borrowed" "[I", Cond.fieldLink RX0 30 "StuckRods$Board" "setting" "I"]
def wsL_set : List Cond := .codeWith yL_set cL_set 4 (some .int) [(0, 9, 12, 15)] :: ((wsL_set_r1 ++ wsL_set_r2) ++ wsX30 ++ wsX00 ++ wsX10 ++ (vx_atS RX3 105 "java/lang/IllegalArgumentException" ["java/lang/RuntimeException", "java/lang/Exception"]).filter goodWord)
def wsL_add_r1 : List Cond := [Cond.classLink RL 13 "java/lang/IndexOutOfBoundsException", Cond.classLink RL 15 "java/lang/IllegalArgumentException", Cond.classLink RL 17 "java/lang/IllegalStateException", Cond.methodLink RL 27 yX3_add, Cond.instanceMethod yX3_add, Cond.selects RX3 yX3_add yX3_add, Cond.initialized RX3, Cond.code yX3_add cX3_add 3 (some .int), Cond.methodLink RX3 30 yX3_checkRod, Cond.static yX3_checkRod, Cond.code yX3_checkRod cX3_checkRod 1 none, Cond.classLink RX3 210 "java/lang/IndexOutOfBoundsException", Cond.initialized "java/lang/IndexOutOfBoundsException", Cond.methodLink RX3 34 yX3_checkRange, Cond.static yX3_checkRange, Cond.code yX3_checkRange cX3_checkRange 3 none, Cond.classLink RX3 101 "java/lang/IllegalArgumentException", Cond.initialized "java/lang/IllegalArgumentException", Cond.methodLink RX3 65 yX3_changeOrThrow, Cond.instanceMethod yX3_changeOrThrow, Cond.selects RX3 yX3_changeOrThrow yX3_changeOrThrow, Cond.code yX3_changeOrThrow cX3_changeOrThrow 3 (some .int), Cond.classLink RX3 42 "java/lang/IllegalStateException", Cond.initialized "java/lang/IllegalStateException"]
def wsL_add_r2 : List Cond := [Cond.fieldLink RX3 12 "StuckRods" "board" "LStuckRods$Board;", Cond.fieldLink RX3 19 "StuckRods" "history" "LStuckRods$History;", Cond.methodLink RX3 72 yX0_change, Cond.instanceMethod yX0_change, Cond.selects RX0 yX0_change yX0_change, Cond.initialized RX0, Cond.code yX0_change cX0_change 6 (some .int), Cond.methodLink RX0 48 yX0_shown, Cond.instanceMethod yX0_shown, Cond.selects RX0 yX0_shown yX0_shown, Cond.code yX0_shown cX0_shown 2 (some .int), Cond.fieldLink RX0 9 "StuckRods$Board" "fives" "[I", Cond.fieldLink RX0 15 "StuckRods$Board" "ones" "[I", Cond.methodLink RX0 51 yX0_turn, Cond.instanceMethod yX0_turn, Cond.selects RX0 yX0_turn yX0_turn, Cond.code yX0_turn cX0_turn 8 (some .int), Cond.methodLink RX0 40 yX0_movesBy, Cond.instanceMethod yX0_movesBy, Cond.selects RX0 yX0_movesBy yX0_movesBy, Cond.code yX0_movesBy cX0_movesBy 6 (some .int), Cond.methodLink RX0 34 Lib.Math.abs.name, Cond.static Lib.Math.abs.name, Cond.initialized "java/lang/Math"]
def wsL_add_r3 : List Cond := [Cond.code Lib.Math.abs.name Lib.Math.abs.code 1 (some .int), Cond.fieldLink RX0 18 "StuckRods$Board" "stuck" "[I", Cond.methodLink RX0 44 yX0_place, Cond.instanceMethod yX0_place, Cond.selects RX0 yX0_place yX0_place, Cond.code yX0_place cX0_place 5 none, Cond.fieldLink RX0 24 "StuckRods$Board" "moved" "[I", Cond.methodLink RX0 55 yX0_turnAndCarry, Cond.instanceMethod yX0_turnAndCarry, Cond.selects RX0 yX0_turnAndCarry yX0_turnAndCarry, Cond.code yX0_turnAndCarry cX0_turnAndCarry 8 (some .int), Cond.methodLink RX0 59 yX0_borrow, Cond.instanceMethod yX0_borrow, Cond.selects RX0 yX0_borrow yX0_borrow, Cond.code yX0_borrow cX0_borrow 5 (some .boolean), Cond.fieldLink RX0 21 "StuckRods$Board" "loan" "[I", Cond.fieldLink RX0 30 "StuckRods$Board" "setting" "I", Cond.fieldLink RX0 27 "StuckRods$Board" "borrowed" "[I", Cond.methodLink RX3 49 yX1_keep, Cond.instanceMethod yX1_keep, Cond.selects RX1 yX1_keep yX1_keep, Cond.initialized RX1, Cond.code yX1_keep cX1_keep 2 none, Cond.fieldLink RX1 21 "StuckRods$History" "size" "I"]
def wsL_add_r4 : List Cond := [Cond.fieldLink RX1 17 "StuckRods$History" "oldest" "I", Cond.fieldLink RX1 11 "StuckRods$History" "slots" "[LStuckRods$Board;", Cond.methodLink RX1 25 yX0_copyFrom, Cond.instanceMethod yX0_copyFrom, Cond.selects RX0 yX0_copyFrom yX0_copyFrom, Cond.code yX0_copyFrom cX0_copyFrom 3 none]
def wsL_add : List Cond := .codeWith yL_add cL_add 5 (some .int) [(0, 10, 13, 13), (0, 10, 17, 15), (0, 10, 21, 17)] :: ((wsL_add_r1 ++ (wsL_add_r2 ++ (wsL_add_r3 ++ wsL_add_r4))) ++ wsX30 ++ wsX00 ++ wsX10 ++ (vx_atS RX3 214 "java/lang/IndexOutOfBoundsException" ["java/lang/RuntimeException", "java/lang/Exception"]).filter goodWord ++ (vx_atS RX3 105 "java/lang/IllegalArgumentException" ["java/lang/RuntimeException", "java/lang/Exception"]).filter goodWord ++ (vx_atS RX3 46 "java/lang/IllegalStateException" ["java/lang/RuntimeException", "java/lang/Exception"]).filter goodWord)
def wsL_less_r1 : List Cond := [Cond.classLink RL 13 "java/lang/IndexOutOfBoundsException", Cond.classLink RL 15 "java/lang/IllegalArgumentException", Cond.classLink RL 17 "java/lang/IllegalStateException", Cond.methodLink RL 30 yX3_less, Cond.instanceMethod yX3_less, Cond.selects RX3 yX3_less yX3_less, Cond.initialized RX3, Cond.code yX3_less cX3_less 3 (some .int), Cond.methodLink RX3 30 yX3_checkRod, Cond.static yX3_checkRod, Cond.code yX3_checkRod cX3_checkRod 1 none, Cond.classLink RX3 210 "java/lang/IndexOutOfBoundsException", Cond.initialized "java/lang/IndexOutOfBoundsException", Cond.methodLink RX3 34 yX3_checkRange, Cond.static yX3_checkRange, Cond.code yX3_checkRange cX3_checkRange 3 none, Cond.classLink RX3 101 "java/lang/IllegalArgumentException", Cond.initialized "java/lang/IllegalArgumentException", Cond.methodLink RX3 65 yX3_changeOrThrow, Cond.instanceMethod yX3_changeOrThrow, Cond.selects RX3 yX3_changeOrThrow yX3_changeOrThrow, Cond.code yX3_changeOrThrow cX3_changeOrThrow 3 (some .int), Cond.classLink RX3 42 "java/lang/IllegalStateException", Cond.initialized "java/lang/IllegalStateException"]
def wsL_less_r2 : List Cond := [Cond.fieldLink RX3 12 "StuckRods" "board" "LStuckRods$Board;", Cond.fieldLink RX3 19 "StuckRods" "history" "LStuckRods$History;", Cond.methodLink RX3 72 yX0_change, Cond.instanceMethod yX0_change, Cond.selects RX0 yX0_change yX0_change, Cond.initialized RX0, Cond.code yX0_change cX0_change 6 (some .int), Cond.methodLink RX0 48 yX0_shown, Cond.instanceMethod yX0_shown, Cond.selects RX0 yX0_shown yX0_shown, Cond.code yX0_shown cX0_shown 2 (some .int), Cond.fieldLink RX0 9 "StuckRods$Board" "fives" "[I", Cond.fieldLink RX0 15 "StuckRods$Board" "ones" "[I", Cond.methodLink RX0 51 yX0_turn, Cond.instanceMethod yX0_turn, Cond.selects RX0 yX0_turn yX0_turn, Cond.code yX0_turn cX0_turn 8 (some .int), Cond.methodLink RX0 40 yX0_movesBy, Cond.instanceMethod yX0_movesBy, Cond.selects RX0 yX0_movesBy yX0_movesBy, Cond.code yX0_movesBy cX0_movesBy 6 (some .int), Cond.methodLink RX0 34 Lib.Math.abs.name, Cond.static Lib.Math.abs.name, Cond.initialized "java/lang/Math"]
def wsL_less_r3 : List Cond := [Cond.code Lib.Math.abs.name Lib.Math.abs.code 1 (some .int), Cond.fieldLink RX0 18 "StuckRods$Board" "stuck" "[I", Cond.methodLink RX0 44 yX0_place, Cond.instanceMethod yX0_place, Cond.selects RX0 yX0_place yX0_place, Cond.code yX0_place cX0_place 5 none, Cond.fieldLink RX0 24 "StuckRods$Board" "moved" "[I", Cond.methodLink RX0 55 yX0_turnAndCarry, Cond.instanceMethod yX0_turnAndCarry, Cond.selects RX0 yX0_turnAndCarry yX0_turnAndCarry, Cond.code yX0_turnAndCarry cX0_turnAndCarry 8 (some .int), Cond.methodLink RX0 59 yX0_borrow, Cond.instanceMethod yX0_borrow, Cond.selects RX0 yX0_borrow yX0_borrow, Cond.code yX0_borrow cX0_borrow 5 (some .boolean), Cond.fieldLink RX0 21 "StuckRods$Board" "loan" "[I", Cond.fieldLink RX0 30 "StuckRods$Board" "setting" "I", Cond.fieldLink RX0 27 "StuckRods$Board" "borrowed" "[I", Cond.methodLink RX3 49 yX1_keep, Cond.instanceMethod yX1_keep, Cond.selects RX1 yX1_keep yX1_keep, Cond.initialized RX1, Cond.code yX1_keep cX1_keep 2 none, Cond.fieldLink RX1 21 "StuckRods$History" "size" "I"]
def wsL_less_r4 : List Cond := [Cond.fieldLink RX1 17 "StuckRods$History" "oldest" "I", Cond.fieldLink RX1 11 "StuckRods$History" "slots" "[LStuckRods$Board;", Cond.methodLink RX1 25 yX0_copyFrom, Cond.instanceMethod yX0_copyFrom, Cond.selects RX0 yX0_copyFrom yX0_copyFrom, Cond.code yX0_copyFrom cX0_copyFrom 3 none]
def wsL_less : List Cond := .codeWith yL_less cL_less 5 (some .int) [(0, 10, 13, 13), (0, 10, 17, 15), (0, 10, 21, 17)] :: ((wsL_less_r1 ++ (wsL_less_r2 ++ (wsL_less_r3 ++ wsL_less_r4))) ++ wsX30 ++ wsX00 ++ wsX10 ++ (vx_atS RX3 214 "java/lang/IndexOutOfBoundsException" ["java/lang/RuntimeException", "java/lang/Exception"]).filter goodWord ++ (vx_atS RX3 105 "java/lang/IllegalArgumentException" ["java/lang/RuntimeException", "java/lang/Exception"]).filter goodWord ++ (vx_atS RX3 46 "java/lang/IllegalStateException" ["java/lang/RuntimeException", "java/lang/Exception"]).filter goodWord)
def wsL_pay_r1 : List Cond := [Cond.classLink RL 13 "java/lang/IndexOutOfBoundsException", Cond.classLink RL 17 "java/lang/IllegalStateException", Cond.methodLink RL 33 yX3_pay, Cond.instanceMethod yX3_pay, Cond.selects RX3 yX3_pay yX3_pay, Cond.initialized RX3, Cond.code yX3_pay cX3_pay 2 (some .int), Cond.classLink RX3 42 "java/lang/IllegalStateException", Cond.initialized "java/lang/IllegalStateException", Cond.fieldLink RX3 12 "StuckRods" "board" "LStuckRods$Board;", Cond.fieldLink RX3 69 "StuckRods$Board" "loan" "[I", Cond.fieldLink RX3 19 "StuckRods" "history" "LStuckRods$History;", Cond.methodLink RX3 30 yX3_checkRod, Cond.static yX3_checkRod, Cond.code yX3_checkRod cX3_checkRod 1 none, Cond.classLink RX3 210 "java/lang/IndexOutOfBoundsException", Cond.initialized "java/lang/IndexOutOfBoundsException", Cond.methodLink RX3 72 yX0_change, Cond.instanceMethod yX0_change, Cond.selects RX0 yX0_change yX0_change, Cond.initialized RX0, Cond.code yX0_change cX0_change 6 (some .int), Cond.methodLink RX0 48 yX0_shown, Cond.instanceMethod yX0_shown]
def wsL_pay_r2 : List Cond := [Cond.selects RX0 yX0_shown yX0_shown, Cond.code yX0_shown cX0_shown 2 (some .int), Cond.fieldLink RX0 9 "StuckRods$Board" "fives" "[I", Cond.fieldLink RX0 15 "StuckRods$Board" "ones" "[I", Cond.methodLink RX0 51 yX0_turn, Cond.instanceMethod yX0_turn, Cond.selects RX0 yX0_turn yX0_turn, Cond.code yX0_turn cX0_turn 8 (some .int), Cond.methodLink RX0 40 yX0_movesBy, Cond.instanceMethod yX0_movesBy, Cond.selects RX0 yX0_movesBy yX0_movesBy, Cond.code yX0_movesBy cX0_movesBy 6 (some .int), Cond.methodLink RX0 34 Lib.Math.abs.name, Cond.static Lib.Math.abs.name, Cond.initialized "java/lang/Math", Cond.code Lib.Math.abs.name Lib.Math.abs.code 1 (some .int), Cond.fieldLink RX0 18 "StuckRods$Board" "stuck" "[I", Cond.methodLink RX0 44 yX0_place, Cond.instanceMethod yX0_place, Cond.selects RX0 yX0_place yX0_place, Cond.code yX0_place cX0_place 5 none, Cond.fieldLink RX0 24 "StuckRods$Board" "moved" "[I", Cond.methodLink RX0 55 yX0_turnAndCarry, Cond.instanceMethod yX0_turnAndCarry]
def wsL_pay_r3 : List Cond := [Cond.selects RX0 yX0_turnAndCarry yX0_turnAndCarry, Cond.code yX0_turnAndCarry cX0_turnAndCarry 8 (some .int), Cond.methodLink RX0 59 yX0_borrow, Cond.instanceMethod yX0_borrow, Cond.selects RX0 yX0_borrow yX0_borrow, Cond.code yX0_borrow cX0_borrow 5 (some .boolean), Cond.fieldLink RX0 21 "StuckRods$Board" "loan" "[I", Cond.fieldLink RX0 30 "StuckRods$Board" "setting" "I", Cond.fieldLink RX0 27 "StuckRods$Board" "borrowed" "[I", Cond.methodLink RX3 49 yX1_keep, Cond.instanceMethod yX1_keep, Cond.selects RX1 yX1_keep yX1_keep, Cond.initialized RX1, Cond.code yX1_keep cX1_keep 2 none, Cond.fieldLink RX1 21 "StuckRods$History" "size" "I", Cond.fieldLink RX1 17 "StuckRods$History" "oldest" "I", Cond.fieldLink RX1 11 "StuckRods$History" "slots" "[LStuckRods$Board;", Cond.methodLink RX1 25 yX0_copyFrom, Cond.instanceMethod yX0_copyFrom, Cond.selects RX0 yX0_copyFrom yX0_copyFrom, Cond.code yX0_copyFrom cX0_copyFrom 3 none, Cond.methodLink RX3 78 yX0_payIfPossible, Cond.instanceMethod yX0_payIfPossible, Cond.selects RX0 yX0_payIfPossible yX0_payIfPossible]
def wsL_pay_r4 : List Cond := [Cond.code yX0_payIfPossible cX0_payIfPossible 3 (some .int), Cond.methodLink RX0 63 yX0_change]
def wsL_pay : List Cond := .codeWith yL_pay cL_pay 4 (some .int) [(0, 9, 12, 13), (0, 9, 15, 17)] :: ((wsL_pay_r1 ++ (wsL_pay_r2 ++ (wsL_pay_r3 ++ wsL_pay_r4))) ++ wsX30 ++ wsX00 ++ wsX10 ++ (vx_atS RX3 46 "java/lang/IllegalStateException" ["java/lang/RuntimeException", "java/lang/Exception"]).filter goodWord ++ (vx_atS RX3 214 "java/lang/IndexOutOfBoundsException" ["java/lang/RuntimeException", "java/lang/Exception"]).filter goodWord)
def wsL_append : List Cond := .codeWith yL_append cL_append 4 (some .int) [(0, 9, 12, 15), (0, 9, 15, 17)] :: ([.classLink RL 15 "java/lang/IllegalArgumentException", .classLink RL 17 "java/lang/IllegalStateException", .methodLink RL 36 yX3_append, .instanceMethod yX3_append, .selects RX3 yX3_append yX3_append, .initialized RX3, .code yX3_append cX3_append 2 (some .int), .classLink RX3 42 "java/lang/IllegalStateException", .initialized "java/lang/IllegalStateException", .fieldLink RX3 26 "StuckRods" "text" "LStuckRods$SumText;", .fieldLink RX3 85 "StuckRods$SumText" "length" "I", .fieldLink RX3 90 "StuckRods$SumText" "codes" "[I", .methodLink RX3 34 yX3_checkRange, .static yX3_checkRange, .code yX3_checkRange cX3_checkRange 3 none, .classLink RX3 101 "java/lang/IllegalArgumentException", .initialized "java/lang/IllegalArgumentException"] ++ wsX30 ++ wsX20 ++ (vx_atS RX3 46 "java/lang/IllegalStateException" ["java/lang/RuntimeException", "java/lang/Exception"]).filter goodWord ++ (vx_atS RX3 105 "java/lang/IllegalArgumentException" ["java/lang/RuntimeException", "java/lang/Exception"]).filter goodWord)
def wsL_reckon_r1 : List Cond := [Cond.classLink RL 15 "java/lang/IllegalArgumentException", Cond.methodLink RL 39 yX3_reckon, Cond.instanceMethod yX3_reckon, Cond.selects RX3 yX3_reckon yX3_reckon, Cond.initialized RX3, Cond.code yX3_reckon cX3_reckon 5 (some .int), Cond.classLink RX3 101 "java/lang/IllegalArgumentException", Cond.initialized "java/lang/IllegalArgumentException", Cond.fieldLink RX3 26 "StuckRods" "text" "LStuckRods$SumText;", Cond.fieldLink RX3 19 "StuckRods" "history" "LStuckRods$History;", Cond.fieldLink RX3 12 "StuckRods" "board" "LStuckRods$Board;", Cond.fieldLink RX3 85 "StuckRods$SumText" "length" "I", Cond.fieldLink RX3 90 "StuckRods$SumText" "codes" "[I", Cond.methodLink RX3 97 yX2_isCompleteSum, Cond.instanceMethod yX2_isCompleteSum, Cond.selects RX2 yX2_isCompleteSum yX2_isCompleteSum, Cond.initialized RX2, Cond.code yX2_isCompleteSum cX2_isCompleteSum 1 (some .boolean), Cond.fieldLink RX2 15 "StuckRods$SumText" "length" "I", Cond.fieldLink RX2 9 "StuckRods$SumText" "codes" "[I", Cond.methodLink RX2 26 yX2_firstWrong, Cond.instanceMethod yX2_firstWrong, Cond.selects RX2 yX2_firstWrong yX2_firstWrong, Cond.code yX2_firstWrong cX2_firstWrong 4 (some .int)]
def wsL_reckon_r2 : List Cond := [Cond.static yX3_isSign, Cond.code yX3_isSign cX3_isSign 1 (some .boolean), Cond.static yX3_isDigit, Cond.code yX3_isDigit cX3_isDigit 1 (some .boolean), Cond.methodLink RX3 49 yX1_keep, Cond.instanceMethod yX1_keep, Cond.selects RX1 yX1_keep yX1_keep, Cond.initialized RX1, Cond.code yX1_keep cX1_keep 2 none, Cond.fieldLink RX1 21 "StuckRods$History" "size" "I", Cond.fieldLink RX1 17 "StuckRods$History" "oldest" "I", Cond.fieldLink RX1 11 "StuckRods$History" "slots" "[LStuckRods$Board;", Cond.methodLink RX1 25 yX0_copyFrom, Cond.instanceMethod yX0_copyFrom, Cond.selects RX0 yX0_copyFrom yX0_copyFrom, Cond.initialized RX0, Cond.code yX0_copyFrom cX0_copyFrom 3 none, Cond.fieldLink RX0 9 "StuckRods$Board" "fives" "[I", Cond.fieldLink RX0 15 "StuckRods$Board" "ones" "[I", Cond.fieldLink RX0 18 "StuckRods$Board" "stuck" "[I", Cond.fieldLink RX0 21 "StuckRods$Board" "loan" "[I", Cond.fieldLink RX0 24 "StuckRods$Board" "moved" "[I", Cond.fieldLink RX0 27 "StuckRods$Board" "borrowed" "[I", Cond.fieldLink RX0 30 "StuckRods$Board" "setting" "I"]
def wsL_reckon_r3 : List Cond := [Cond.methodLink RX3 106 yX3_isSign, Cond.methodLink RX3 110 yX2_digitsBehind, Cond.instanceMethod yX2_digitsBehind, Cond.selects RX2 yX2_digitsBehind yX2_digitsBehind, Cond.code yX2_digitsBehind cX2_digitsBehind 4 (some .int), Cond.methodLink RX3 113 yX3_reckonTerm, Cond.instanceMethod yX3_reckonTerm, Cond.selects RX3 yX3_reckonTerm yX3_reckonTerm, Cond.code yX3_reckonTerm cX3_reckonTerm 6 (some .int), Cond.methodLink RX3 72 yX0_change, Cond.instanceMethod yX0_change, Cond.selects RX0 yX0_change yX0_change, Cond.code yX0_change cX0_change 6 (some .int), Cond.methodLink RX0 48 yX0_shown, Cond.instanceMethod yX0_shown, Cond.selects RX0 yX0_shown yX0_shown, Cond.code yX0_shown cX0_shown 2 (some .int), Cond.methodLink RX0 51 yX0_turn, Cond.instanceMethod yX0_turn, Cond.selects RX0 yX0_turn yX0_turn, Cond.code yX0_turn cX0_turn 8 (some .int), Cond.methodLink RX0 40 yX0_movesBy, Cond.instanceMethod yX0_movesBy, Cond.selects RX0 yX0_movesBy yX0_movesBy]
def wsL_reckon_r4 : List Cond := [Cond.code yX0_movesBy cX0_movesBy 6 (some .int), Cond.methodLink RX0 34 Lib.Math.abs.name, Cond.static Lib.Math.abs.name, Cond.initialized "java/lang/Math", Cond.code Lib.Math.abs.name Lib.Math.abs.code 1 (some .int), Cond.methodLink RX0 44 yX0_place, Cond.instanceMethod yX0_place, Cond.selects RX0 yX0_place yX0_place, Cond.code yX0_place cX0_place 5 none, Cond.methodLink RX0 55 yX0_turnAndCarry, Cond.instanceMethod yX0_turnAndCarry, Cond.selects RX0 yX0_turnAndCarry yX0_turnAndCarry, Cond.code yX0_turnAndCarry cX0_turnAndCarry 8 (some .int), Cond.methodLink RX0 59 yX0_borrow, Cond.instanceMethod yX0_borrow, Cond.selects RX0 yX0_borrow yX0_borrow, Cond.code yX0_borrow cX0_borrow 5 (some .boolean)]
def wsL_reckon : List Cond := .codeWith yL_reckon cL_reckon 3 (some .int) [(0, 8, 11, 15)] :: ((wsL_reckon_r1 ++ (wsL_reckon_r2 ++ (wsL_reckon_r3 ++ wsL_reckon_r4))) ++ wsX30 ++ wsX20 ++ wsX10 ++ wsX00 ++ (vx_atS RX3 105 "java/lang/IllegalArgumentException" ["java/lang/RuntimeException", "java/lang/Exception"]).filter goodWord)
def wsL_undo_r1 : List Cond := [Cond.classLink RL 17 "java/lang/IllegalStateException", Cond.methodLink RL 43 yX3_undo, Cond.instanceMethod yX3_undo, Cond.selects RX3 yX3_undo yX3_undo, Cond.initialized RX3, Cond.code yX3_undo cX3_undo 1 (some .int), Cond.classLink RX3 42 "java/lang/IllegalStateException", Cond.initialized "java/lang/IllegalStateException", Cond.fieldLink RX3 19 "StuckRods" "history" "LStuckRods$History;", Cond.fieldLink RX3 116 "StuckRods$History" "size" "I", Cond.fieldLink RX3 12 "StuckRods" "board" "LStuckRods$Board;", Cond.methodLink RX3 121 yX1_restore, Cond.instanceMethod yX1_restore, Cond.selects RX1 yX1_restore yX1_restore, Cond.initialized RX1, Cond.code yX1_restore cX1_restore 2 none, Cond.fieldLink RX1 21 "StuckRods$History" "size" "I", Cond.fieldLink RX1 11 "StuckRods$History" "slots" "[LStuckRods$Board;", Cond.fieldLink RX1 17 "StuckRods$History" "oldest" "I", Cond.methodLink RX1 25 yX0_copyFrom, Cond.instanceMethod yX0_copyFrom, Cond.selects RX0 yX0_copyFrom yX0_copyFrom, Cond.initialized RX0, Cond.code yX0_copyFrom cX0_copyFrom 3 none]
def wsL_undo_r2 : List Cond := [Cond.fieldLink RX0 9 "StuckRods$Board" "fives" "[I", Cond.fieldLink RX0 15 "StuckRods$Board" "ones" "[I", Cond.fieldLink RX0 18 "StuckRods$Board" "stuck" "[I", Cond.fieldLink RX0 21 "StuckRods$Board" "loan" "[I", Cond.fieldLink RX0 24 "StuckRods$Board" "moved" "[I", Cond.fieldLink RX0 27 "StuckRods$Board" "borrowed" "[I", Cond.fieldLink RX0 30 "StuckRods$Board" "setting" "I"]
def wsL_undo : List Cond := .codeWith yL_undo cL_undo 3 (some .int) [(0, 8, 11, 17)] :: ((wsL_undo_r1 ++ wsL_undo_r2) ++ wsX30 ++ wsX10 ++ wsX00 ++ (vx_atS RX3 46 "java/lang/IllegalStateException" ["java/lang/RuntimeException", "java/lang/Exception"]).filter goodWord)
def wsL_rod_r1 : List Cond := [Cond.classLink RL 13 "java/lang/IndexOutOfBoundsException", Cond.classLink RL 15 "java/lang/IllegalArgumentException", Cond.methodLink RL 46 yX3_rod, Cond.instanceMethod yX3_rod, Cond.selects RX3 yX3_rod yX3_rod, Cond.initialized RX3, Cond.code yX3_rod cX3_rod 3 (some .int), Cond.fieldLink RX3 12 "StuckRods" "board" "LStuckRods$Board;", Cond.fieldLink RX3 124 "StuckRods$Board" "fives" "[I", Cond.fieldLink RX3 127 "StuckRods$Board" "ones" "[I", Cond.fieldLink RX3 69 "StuckRods$Board" "loan" "[I", Cond.fieldLink RX3 57 "StuckRods$Board" "stuck" "[I", Cond.fieldLink RX3 133 "StuckRods$Board" "moved" "[I", Cond.fieldLink RX3 136 "StuckRods$Board" "borrowed" "[I", Cond.methodLink RX3 30 yX3_checkRod, Cond.static yX3_checkRod, Cond.code yX3_checkRod cX3_checkRod 1 none, Cond.classLink RX3 210 "java/lang/IndexOutOfBoundsException", Cond.initialized "java/lang/IndexOutOfBoundsException", Cond.methodLink RX3 34 yX3_checkRange, Cond.static yX3_checkRange, Cond.code yX3_checkRange cX3_checkRange 3 none, Cond.classLink RX3 101 "java/lang/IllegalArgumentException", Cond.initialized "java/lang/IllegalArgumentException"]
def wsL_rod_r2 : List Cond := [Cond.methodLink RX3 130 yX0_shown, Cond.instanceMethod yX0_shown, Cond.selects RX0 yX0_shown yX0_shown, Cond.initialized RX0, Cond.code yX0_shown cX0_shown 2 (some .int), Cond.fieldLink RX0 9 "StuckRods$Board" "fives" "[I", Cond.fieldLink RX0 15 "StuckRods$Board" "ones" "[I", Cond.methodLink RX3 139 yX0_reach, Cond.instanceMethod yX0_reach, Cond.selects RX0 yX0_reach yX0_reach, Cond.code yX0_reach cX0_reach 4 (some .int), Cond.methodLink RX0 51 yX0_turn, Cond.instanceMethod yX0_turn, Cond.selects RX0 yX0_turn yX0_turn, Cond.code yX0_turn cX0_turn 8 (some .int), Cond.methodLink RX0 40 yX0_movesBy, Cond.instanceMethod yX0_movesBy, Cond.selects RX0 yX0_movesBy yX0_movesBy, Cond.code yX0_movesBy cX0_movesBy 6 (some .int), Cond.methodLink RX0 34 Lib.Math.abs.name, Cond.static Lib.Math.abs.name, Cond.initialized "java/lang/Math", Cond.code Lib.Math.abs.name Lib.Math.abs.code 1 (some .int), Cond.fieldLink RX0 18 "StuckRods$Board" "stuck" "[I"]
def wsL_rod_r3 : List Cond := [Cond.methodLink RX0 44 yX0_place, Cond.instanceMethod yX0_place, Cond.selects RX0 yX0_place yX0_place, Cond.code yX0_place cX0_place 5 none, Cond.fieldLink RX0 24 "StuckRods$Board" "moved" "[I"]
def wsL_rod : List Cond := .codeWith yL_rod cL_rod 5 (some .int) [(0, 10, 13, 13), (0, 10, 17, 15)] :: ((wsL_rod_r1 ++ (wsL_rod_r2 ++ wsL_rod_r3)) ++ wsX30 ++ wsX00 ++ (vx_atS RX3 214 "java/lang/IndexOutOfBoundsException" ["java/lang/RuntimeException", "java/lang/Exception"]).filter goodWord ++ (vx_atS RX3 105 "java/lang/IllegalArgumentException" ["java/lang/RuntimeException", "java/lang/Exception"]).filter goodWord)
def wsL_count_r1 : List Cond := [Cond.classLink RL 15 "java/lang/IllegalArgumentException", Cond.methodLink RL 49 yX3_count, Cond.instanceMethod yX3_count, Cond.selects RX3 yX3_count yX3_count, Cond.initialized RX3, Cond.code yX3_count cX3_count 2 (some .int), Cond.fieldLink RX3 12 "StuckRods" "board" "LStuckRods$Board;", Cond.fieldLink RX3 61 "StuckRods$Board" "setting" "I", Cond.fieldLink RX3 19 "StuckRods" "history" "LStuckRods$History;", Cond.fieldLink RX3 116 "StuckRods$History" "size" "I", Cond.methodLink RX3 34 yX3_checkRange, Cond.static yX3_checkRange, Cond.code yX3_checkRange cX3_checkRange 3 none, Cond.classLink RX3 101 "java/lang/IllegalArgumentException", Cond.initialized "java/lang/IllegalArgumentException", Cond.methodLink RX3 144 yX0_allMoved, Cond.instanceMethod yX0_allMoved, Cond.selects RX0 yX0_allMoved yX0_allMoved, Cond.initialized RX0, Cond.code yX0_allMoved cX0_allMoved 3 (some .int), Cond.fieldLink RX0 24 "StuckRods$Board" "moved" "[I", Cond.methodLink RX3 147 yX0_rodsWithLoan, Cond.instanceMethod yX0_rodsWithLoan, Cond.selects RX0 yX0_rodsWithLoan yX0_rodsWithLoan]
def wsL_count_r2 : List Cond := [Cond.code yX0_rodsWithLoan cX0_rodsWithLoan 3 (some .int), Cond.fieldLink RX0 21 "StuckRods$Board" "loan" "[I", Cond.methodLink RX3 150 yX0_allLoans, Cond.instanceMethod yX0_allLoans, Cond.selects RX0 yX0_allLoans yX0_allLoans, Cond.code yX0_allLoans cX0_allLoans 3 (some .int), Cond.methodLink RX3 153 yX0_allShown, Cond.instanceMethod yX0_allShown, Cond.selects RX0 yX0_allShown yX0_allShown, Cond.code yX0_allShown cX0_allShown 3 (some .int), Cond.methodLink RX0 48 yX0_shown, Cond.instanceMethod yX0_shown, Cond.selects RX0 yX0_shown yX0_shown, Cond.code yX0_shown cX0_shown 2 (some .int), Cond.fieldLink RX0 9 "StuckRods$Board" "fives" "[I", Cond.fieldLink RX0 15 "StuckRods$Board" "ones" "[I", Cond.methodLink RX3 156 yJ9_floorMod_7cf53, Cond.static yJ9_floorMod_7cf53, Cond.initialized RJ9, Cond.code yJ9_floorMod_7cf53 cJ9_floorMod_7cf53 3 (some .int), Cond.methodLink RX3 161 yX0_rodsOutOfOrder, Cond.instanceMethod yX0_rodsOutOfOrder, Cond.selects RX0 yX0_rodsOutOfOrder yX0_rodsOutOfOrder, Cond.code yX0_rodsOutOfOrder cX0_rodsOutOfOrder 3 (some .int)]
def wsL_count_r3 : List Cond := [Cond.methodLink RX3 164 yX0_rodsWithStuck, Cond.instanceMethod yX0_rodsWithStuck, Cond.selects RX0 yX0_rodsWithStuck yX0_rodsWithStuck, Cond.code yX0_rodsWithStuck cX0_rodsWithStuck 3 (some .int), Cond.fieldLink RX0 18 "StuckRods$Board" "stuck" "[I"]
def wsL_count : List Cond := .codeWith yL_count cL_count 4 (some .int) [(0, 9, 12, 15)] :: ((wsL_count_r1 ++ (wsL_count_r2 ++ wsL_count_r3)) ++ wsX30 ++ wsX00 ++ wsX10 ++ (vx_atS RX3 105 "java/lang/IllegalArgumentException" ["java/lang/RuntimeException", "java/lang/Exception"]).filter goodWord)
def wsL_moves_r1 : List Cond := [Cond.classLink RL 13 "java/lang/IndexOutOfBoundsException", Cond.classLink RL 15 "java/lang/IllegalArgumentException", Cond.methodLink RL 52 yX3_moves, Cond.instanceMethod yX3_moves, Cond.selects RX3 yX3_moves yX3_moves, Cond.initialized RX3, Cond.code yX3_moves cX3_moves 3 (some .int), Cond.fieldLink RX3 12 "StuckRods" "board" "LStuckRods$Board;", Cond.methodLink RX3 30 yX3_checkRod, Cond.static yX3_checkRod, Cond.code yX3_checkRod cX3_checkRod 1 none, Cond.classLink RX3 210 "java/lang/IndexOutOfBoundsException", Cond.initialized "java/lang/IndexOutOfBoundsException", Cond.methodLink RX3 34 yX3_checkRange, Cond.static yX3_checkRange, Cond.code yX3_checkRange cX3_checkRange 3 none, Cond.classLink RX3 101 "java/lang/IllegalArgumentException", Cond.initialized "java/lang/IllegalArgumentException", Cond.methodLink RX3 167 yX0_turn, Cond.instanceMethod yX0_turn, Cond.selects RX0 yX0_turn yX0_turn, Cond.initialized RX0, Cond.code yX0_turn cX0_turn 8 (some .int), Cond.methodLink RX0 40 yX0_movesBy]
def wsL_moves_r2 : List Cond := [Cond.instanceMethod yX0_movesBy, Cond.selects RX0 yX0_movesBy yX0_movesBy, Cond.code yX0_movesBy cX0_movesBy 6 (some .int), Cond.fieldLink RX0 9 "StuckRods$Board" "fives" "[I", Cond.methodLink RX0 34 Lib.Math.abs.name, Cond.static Lib.Math.abs.name, Cond.initialized "java/lang/Math", Cond.code Lib.Math.abs.name Lib.Math.abs.code 1 (some .int), Cond.fieldLink RX0 15 "StuckRods$Board" "ones" "[I", Cond.fieldLink RX0 18 "StuckRods$Board" "stuck" "[I", Cond.methodLink RX0 44 yX0_place, Cond.instanceMethod yX0_place, Cond.selects RX0 yX0_place yX0_place, Cond.code yX0_place cX0_place 5 none, Cond.fieldLink RX0 24 "StuckRods$Board" "moved" "[I"]
def wsL_moves : List Cond := .codeWith yL_moves cL_moves 5 (some .int) [(0, 10, 13, 13), (0, 10, 17, 15)] :: ((wsL_moves_r1 ++ wsL_moves_r2) ++ wsX30 ++ wsX00 ++ (vx_atS RX3 214 "java/lang/IndexOutOfBoundsException" ["java/lang/RuntimeException", "java/lang/Exception"]).filter goodWord ++ (vx_atS RX3 105 "java/lang/IllegalArgumentException" ["java/lang/RuntimeException", "java/lang/Exception"]).filter goodWord)
def wsL_ifAdded_r1 : List Cond := [Cond.classLink RL 13 "java/lang/IndexOutOfBoundsException", Cond.classLink RL 15 "java/lang/IllegalArgumentException", Cond.methodLink RL 55 yX3_ifAdded, Cond.instanceMethod yX3_ifAdded, Cond.selects RX3 yX3_ifAdded yX3_ifAdded, Cond.initialized RX3, Cond.code yX3_ifAdded cX3_ifAdded 3 (some .int), Cond.fieldLink RX3 12 "StuckRods" "board" "LStuckRods$Board;", Cond.methodLink RX3 30 yX3_checkRod, Cond.static yX3_checkRod, Cond.code yX3_checkRod cX3_checkRod 1 none, Cond.classLink RX3 210 "java/lang/IndexOutOfBoundsException", Cond.initialized "java/lang/IndexOutOfBoundsException", Cond.methodLink RX3 34 yX3_checkRange, Cond.static yX3_checkRange, Cond.code yX3_checkRange cX3_checkRange 3 none, Cond.classLink RX3 101 "java/lang/IllegalArgumentException", Cond.initialized "java/lang/IllegalArgumentException", Cond.methodLink RX3 72 yX0_change, Cond.instanceMethod yX0_change, Cond.selects RX0 yX0_change yX0_change, Cond.initialized RX0, Cond.code yX0_change cX0_change 6 (some .int), Cond.methodLink RX0 48 yX0_shown]
def wsL_ifAdded_r2 : List Cond := [Cond.instanceMethod yX0_shown, Cond.selects RX0 yX0_shown yX0_shown, Cond.code yX0_shown cX0_shown 2 (some .int), Cond.fieldLink RX0 9 "StuckRods$Board" "fives" "[I", Cond.fieldLink RX0 15 "StuckRods$Board" "ones" "[I", Cond.methodLink RX0 51 yX0_turn, Cond.instanceMethod yX0_turn, Cond.selects RX0 yX0_turn yX0_turn, Cond.code yX0_turn cX0_turn 8 (some .int), Cond.methodLink RX0 40 yX0_movesBy, Cond.instanceMethod yX0_movesBy, Cond.selects RX0 yX0_movesBy yX0_movesBy, Cond.code yX0_movesBy cX0_movesBy 6 (some .int), Cond.methodLink RX0 34 Lib.Math.abs.name, Cond.static Lib.Math.abs.name, Cond.initialized "java/lang/Math", Cond.code Lib.Math.abs.name Lib.Math.abs.code 1 (some .int), Cond.fieldLink RX0 18 "StuckRods$Board" "stuck" "[I", Cond.methodLink RX0 44 yX0_place, Cond.instanceMethod yX0_place, Cond.selects RX0 yX0_place yX0_place, Cond.code yX0_place cX0_place 5 none, Cond.fieldLink RX0 24 "StuckRods$Board" "moved" "[I", Cond.methodLink RX0 55 yX0_turnAndCarry]
def wsL_ifAdded_r3 : List Cond := [Cond.instanceMethod yX0_turnAndCarry, Cond.selects RX0 yX0_turnAndCarry yX0_turnAndCarry, Cond.code yX0_turnAndCarry cX0_turnAndCarry 8 (some .int), Cond.methodLink RX0 59 yX0_borrow, Cond.instanceMethod yX0_borrow, Cond.selects RX0 yX0_borrow yX0_borrow, Cond.code yX0_borrow cX0_borrow 5 (some .boolean), Cond.fieldLink RX0 21 "StuckRods$Board" "loan" "[I", Cond.fieldLink RX0 30 "StuckRods$Board" "setting" "I", Cond.fieldLink RX0 27 "StuckRods$Board" "borrowed" "[I"]
def wsL_ifAdded : List Cond := .codeWith yL_ifAdded cL_ifAdded 5 (some .int) [(0, 10, 13, 13), (0, 10, 17, 15)] :: ((wsL_ifAdded_r1 ++ (wsL_ifAdded_r2 ++ wsL_ifAdded_r3)) ++ wsX30 ++ wsX00 ++ (vx_atS RX3 214 "java/lang/IndexOutOfBoundsException" ["java/lang/RuntimeException", "java/lang/Exception"]).filter goodWord ++ (vx_atS RX3 105 "java/lang/IllegalArgumentException" ["java/lang/RuntimeException", "java/lang/Exception"]).filter goodWord)
def wsL_toShow_r1 : List Cond := [Cond.classLink RL 15 "java/lang/IllegalArgumentException", Cond.methodLink RL 58 yX3_toShow, Cond.instanceMethod yX3_toShow, Cond.selects RX3 yX3_toShow yX3_toShow, Cond.initialized RX3, Cond.code yX3_toShow cX3_toShow 6 (some .int), Cond.constant RX3 170 (999999999), Cond.fieldLink RX3 12 "StuckRods" "board" "LStuckRods$Board;", Cond.methodLink RX3 34 yX3_checkRange, Cond.static yX3_checkRange, Cond.code yX3_checkRange cX3_checkRange 3 none, Cond.classLink RX3 101 "java/lang/IllegalArgumentException", Cond.initialized "java/lang/IllegalArgumentException", Cond.methodLink RX3 167 yX0_turn, Cond.instanceMethod yX0_turn, Cond.selects RX0 yX0_turn yX0_turn, Cond.initialized RX0, Cond.code yX0_turn cX0_turn 8 (some .int), Cond.methodLink RX0 40 yX0_movesBy, Cond.instanceMethod yX0_movesBy, Cond.selects RX0 yX0_movesBy yX0_movesBy, Cond.code yX0_movesBy cX0_movesBy 6 (some .int), Cond.fieldLink RX0 9 "StuckRods$Board" "fives" "[I", Cond.methodLink RX0 34 Lib.Math.abs.name]
def wsL_toShow_r2 : List Cond := [Cond.static Lib.Math.abs.name, Cond.initialized "java/lang/Math", Cond.code Lib.Math.abs.name Lib.Math.abs.code 1 (some .int), Cond.fieldLink RX0 15 "StuckRods$Board" "ones" "[I", Cond.fieldLink RX0 18 "StuckRods$Board" "stuck" "[I", Cond.methodLink RX0 44 yX0_place, Cond.instanceMethod yX0_place, Cond.selects RX0 yX0_place yX0_place, Cond.code yX0_place cX0_place 5 none, Cond.fieldLink RX0 24 "StuckRods$Board" "moved" "[I"]
def wsL_toShow : List Cond := .codeWith yL_toShow cL_toShow 4 (some .int) [(0, 9, 12, 15)] :: ((wsL_toShow_r1 ++ wsL_toShow_r2) ++ wsX30 ++ wsX00 ++ (vx_atS RX3 105 "java/lang/IllegalArgumentException" ["java/lang/RuntimeException", "java/lang/Exception"]).filter goodWord)
def wsL_law0_r1 : List Cond := [Cond.classLink RL 8 RX3, Cond.instantiable RX3 3, Cond.initialized RX3, Cond.classLink RL 62 RX4, Cond.instantiable RX4 8, Cond.initialized RX4, Cond.arrayClass .long, Cond.methodLink RL 61 yX3_init, Cond.instanceMethod yX3_init, Cond.code yX3_init cX3_init 1 none, Cond.methodLink RX3 3 objectInit, Cond.instanceMethod objectInit, Cond.code objectInit ⟨#[0xb1]⟩ 1 none, Cond.classLink RX3 9 RX0, Cond.instantiable RX0 7, Cond.initialized RX0, Cond.fieldLink RX3 12 "StuckRods" "board" "LStuckRods$Board;", Cond.classLink RX3 16 RX1, Cond.instantiable RX1 3, Cond.initialized RX1, Cond.fieldLink RX3 19 "StuckRods" "history" "LStuckRods$History;", Cond.classLink RX3 23 RX2, Cond.instantiable RX2 2, Cond.initialized RX2]
def wsL_law0_r2 : List Cond := [Cond.fieldLink RX3 26 "StuckRods" "text" "LStuckRods$SumText;", Cond.methodLink RX3 11 yX0_init, Cond.instanceMethod yX0_init, Cond.code yX0_init cX0_init 1 none, Cond.methodLink RX0 3 objectInit, Cond.arrayClass .int, Cond.fieldLink RX0 9 "StuckRods$Board" "fives" "[I", Cond.fieldLink RX0 15 "StuckRods$Board" "ones" "[I", Cond.fieldLink RX0 18 "StuckRods$Board" "stuck" "[I", Cond.fieldLink RX0 21 "StuckRods$Board" "loan" "[I", Cond.fieldLink RX0 24 "StuckRods$Board" "moved" "[I", Cond.fieldLink RX0 27 "StuckRods$Board" "borrowed" "[I", Cond.fieldLink RX0 30 "StuckRods$Board" "setting" "I", Cond.methodLink RX3 18 yX1_init, Cond.instanceMethod yX1_init, Cond.code yX1_init cX1_init 2 none, Cond.methodLink RX1 3 objectInit, Cond.classLink RX1 9 RX0, Cond.fieldLink RX1 11 "StuckRods$History" "slots" "[LStuckRods$Board;", Cond.fieldLink RX1 17 "StuckRods$History" "oldest" "I", Cond.fieldLink RX1 21 "StuckRods$History" "size" "I", Cond.methodLink RX1 24 yX0_init, Cond.methodLink RX3 25 yX2_init, Cond.instanceMethod yX2_init]
def wsL_law0_r3 : List Cond := [Cond.code yX2_init cX2_init 1 none, Cond.methodLink RX2 3 objectInit, Cond.fieldLink RX2 9 "StuckRods$SumText" "codes" "[I", Cond.fieldLink RX2 15 "StuckRods$SumText" "length" "I", Cond.methodLink RL 64 yX4_init, Cond.instanceMethod yX4_init, Cond.code yX4_init cX4_init 1 none, Cond.methodLink RX4 1 objectInit, Cond.fieldLink RX4 7 "StuckRodsModel" "s" "[I", Cond.fieldLink RX4 13 "StuckRodsModel" "aside" "[I", Cond.fieldLink RX4 16 "StuckRodsModel" "saved" "[I", Cond.fieldLink RX4 19 "StuckRodsModel" "text" "[I", Cond.methodLink RL 65 yL_move, Cond.static yL_move, Cond.initialized RL, Cond.codeWith yL_move cL_move 6 (some .int) [(0, 12, 15, 13), (0, 12, 19, 15), (0, 12, 23, 17)], Cond.classLink RL 13 "java/lang/IndexOutOfBoundsException", Cond.classLink RL 15 "java/lang/IllegalArgumentException", Cond.classLink RL 17 "java/lang/IllegalStateException", Cond.methodLink RL 7 yX3_move, Cond.instanceMethod yX3_move, Cond.selects RX3 yX3_move yX3_move, Cond.code yX3_move cX3_move 5 (some .int), Cond.classLink RX3 42 "java/lang/IllegalStateException"]
def wsL_law0_r4 : List Cond := [Cond.initialized "java/lang/IllegalStateException", Cond.methodLink RX3 30 yX3_checkRod, Cond.static yX3_checkRod, Cond.code yX3_checkRod cX3_checkRod 1 none, Cond.classLink RX3 210 "java/lang/IndexOutOfBoundsException", Cond.initialized "java/lang/IndexOutOfBoundsException", Cond.methodLink RX3 34 yX3_checkRange, Cond.static yX3_checkRange, Cond.code yX3_checkRange cX3_checkRange 3 none, Cond.classLink RX3 101 "java/lang/IllegalArgumentException", Cond.initialized "java/lang/IllegalArgumentException", Cond.methodLink RX3 38 yX0_movesBy, Cond.instanceMethod yX0_movesBy, Cond.selects RX0 yX0_movesBy yX0_movesBy, Cond.code yX0_movesBy cX0_movesBy 6 (some .int), Cond.methodLink RX0 34 Lib.Math.abs.name, Cond.static Lib.Math.abs.name, Cond.initialized "java/lang/Math", Cond.code Lib.Math.abs.name Lib.Math.abs.code 1 (some .int), Cond.methodLink RX3 49 yX1_keep, Cond.instanceMethod yX1_keep, Cond.selects RX1 yX1_keep yX1_keep, Cond.code yX1_keep cX1_keep 2 none, Cond.methodLink RX1 25 yX0_copyFrom]
def wsL_law0_r5 : List Cond := [Cond.instanceMethod yX0_copyFrom, Cond.selects RX0 yX0_copyFrom yX0_copyFrom, Cond.code yX0_copyFrom cX0_copyFrom 3 none, Cond.methodLink RX3 53 yX0_place, Cond.instanceMethod yX0_place, Cond.selects RX0 yX0_place yX0_place, Cond.code yX0_place cX0_place 5 none, Cond.methodLink RL 70 yX4_move, Cond.instanceMethod yX4_move, Cond.selects RX4 yX4_move yX4_move, Cond.code yX4_move cX4_move 4 (some .int), Cond.methodLink RX4 84 yX4_isRod, Cond.static yX4_isRod, Cond.code yX4_isRod cX4_isRod 1 (some .boolean), Cond.methodLink RX4 26 yX4_in, Cond.static yX4_in, Cond.code yX4_in cX4_in 3 (some .boolean), Cond.methodLink RX4 41 yX4_isLoose, Cond.instanceMethod yX4_isLoose, Cond.selects RX4 yX4_isLoose yX4_isLoose, Cond.code yX4_isLoose cX4_isLoose 5 (some .boolean), Cond.methodLink RX4 33 yX4_of, Cond.static yX4_of, Cond.code yX4_of cX4_of 2 (some .int)]
def wsL_law0_r6 : List Cond := [Cond.methodLink RX4 87 yX4_holds, Cond.instanceMethod yX4_holds, Cond.selects RX4 yX4_holds yX4_holds, Cond.code yX4_holds cX4_holds 2 (some .boolean), Cond.fieldLink RX4 22 "StuckRodsModel" "thrown" "I", Cond.methodLink RX4 90 yX4_save, Cond.instanceMethod yX4_save, Cond.selects RX4 yX4_save yX4_save, Cond.code yX4_save cX4_save 2 none, Cond.fieldLink RX4 30 "StuckRodsModel" "savedMany" "I", Cond.methodLink RX4 51 yX4_movesBeads, Cond.instanceMethod yX4_movesBeads, Cond.selects RX4 yX4_movesBeads yX4_movesBeads, Cond.code yX4_movesBeads cX4_movesBeads 5 (some .int), Cond.methodLink RX4 44 yX4_movesTo, Cond.instanceMethod yX4_movesTo, Cond.selects RX4 yX4_movesTo yX4_movesTo, Cond.code yX4_movesTo cX4_movesTo 4 (some .int), Cond.methodLink RX4 37 yX4_size, Cond.static yX4_size, Cond.code yX4_size cX4_size 1 (some .int), Cond.methodLink RL 71 yX4_thrown, Cond.instanceMethod yX4_thrown, Cond.selects RX4 yX4_thrown yX4_thrown]
def wsL_law0_r7 : List Cond := [Cond.code yX4_thrown cX4_thrown 1 (some .int), Cond.methodLink RL 74 yL_stick, Cond.static yL_stick, Cond.codeWith yL_stick cL_stick 5 (some .int) [(0, 10, 13, 13), (0, 10, 17, 15)], Cond.methodLink RL 19 yX3_stick, Cond.instanceMethod yX3_stick, Cond.selects RX3 yX3_stick yX3_stick, Cond.code yX3_stick cX3_stick 4 (some .int), Cond.fieldLink RX3 57 "StuckRods$Board" "stuck" "[I", Cond.methodLink RL 77 yX4_stick, Cond.instanceMethod yX4_stick, Cond.selects RX4 yX4_stick yX4_stick, Cond.code yX4_stick cX4_stick 3 (some .int), Cond.methodLink RX4 93 yX4_puts, Cond.instanceMethod yX4_puts, Cond.selects RX4 yX4_puts yX4_puts, Cond.code yX4_puts cX4_puts 4 (some .int), Cond.methodLink RL 78 yL_set, Cond.static yL_set, Cond.codeWith yL_set cL_set 4 (some .int) [(0, 9, 12, 15)], Cond.methodLink RL 23 yX3_set, Cond.instanceMethod yX3_set, Cond.selects RX3 yX3_set yX3_set, Cond.code yX3_set cX3_set 3 (some .int)]
def wsL_law0_r8 : List Cond := [Cond.fieldLink RX3 61 "StuckRods$Board" "setting" "I", Cond.methodLink RL 81 yX4_set, Cond.instanceMethod yX4_set, Cond.selects RX4 yX4_set yX4_set, Cond.code yX4_set cX4_set 2 (some .int), Cond.methodLink RL 82 yL_add, Cond.static yL_add, Cond.codeWith yL_add cL_add 5 (some .int) [(0, 10, 13, 13), (0, 10, 17, 15), (0, 10, 21, 17)], Cond.methodLink RL 27 yX3_add, Cond.instanceMethod yX3_add, Cond.selects RX3 yX3_add yX3_add, Cond.code yX3_add cX3_add 3 (some .int), Cond.methodLink RX3 65 yX3_changeOrThrow, Cond.instanceMethod yX3_changeOrThrow, Cond.selects RX3 yX3_changeOrThrow yX3_changeOrThrow, Cond.code yX3_changeOrThrow cX3_changeOrThrow 3 (some .int), Cond.methodLink RX3 72 yX0_change, Cond.instanceMethod yX0_change, Cond.selects RX0 yX0_change yX0_change, Cond.code yX0_change cX0_change 6 (some .int), Cond.methodLink RX0 48 yX0_shown, Cond.instanceMethod yX0_shown, Cond.selects RX0 yX0_shown yX0_shown, Cond.code yX0_shown cX0_shown 2 (some .int)]
def wsL_law0_r9 : List Cond := [Cond.methodLink RX0 51 yX0_turn, Cond.instanceMethod yX0_turn, Cond.selects RX0 yX0_turn yX0_turn, Cond.code yX0_turn cX0_turn 8 (some .int), Cond.methodLink RX0 40 yX0_movesBy, Cond.methodLink RX0 44 yX0_place, Cond.methodLink RX0 55 yX0_turnAndCarry, Cond.instanceMethod yX0_turnAndCarry, Cond.selects RX0 yX0_turnAndCarry yX0_turnAndCarry, Cond.code yX0_turnAndCarry cX0_turnAndCarry 8 (some .int), Cond.methodLink RX0 59 yX0_borrow, Cond.instanceMethod yX0_borrow, Cond.selects RX0 yX0_borrow yX0_borrow, Cond.code yX0_borrow cX0_borrow 5 (some .boolean), Cond.methodLink RL 84 yX4_add, Cond.instanceMethod yX4_add, Cond.selects RX4 yX4_add yX4_add, Cond.code yX4_add cX4_add 3 (some .int), Cond.methodLink RX4 103 yX4_takes, Cond.instanceMethod yX4_takes, Cond.selects RX4 yX4_takes yX4_takes, Cond.code yX4_takes cX4_takes 7 (some .int), Cond.methodLink RX4 96 yX4_allMoves, Cond.instanceMethod yX4_allMoves]
def wsL_law0_r10 : List Cond := [Cond.selects RX4 yX4_allMoves yX4_allMoves, Cond.code yX4_allMoves cX4_allMoves 3 (some .int), Cond.methodLink RX4 100 yX4_tries, Cond.instanceMethod yX4_tries, Cond.selects RX4 yX4_tries yX4_tries, Cond.code yX4_tries cX4_tries 5 (some .boolean), Cond.methodLink RX4 71 yX4_putAside, Cond.instanceMethod yX4_putAside, Cond.selects RX4 yX4_putAside yX4_putAside, Cond.code yX4_putAside cX4_putAside 2 none, Cond.methodLink RX4 68 yX4_adds, Cond.instanceMethod yX4_adds, Cond.selects RX4 yX4_adds yX4_adds, Cond.code yX4_adds cX4_adds 4 (some .boolean), Cond.methodLink RX4 54 yX4_shows, Cond.instanceMethod yX4_shows, Cond.selects RX4 yX4_shows yX4_shows, Cond.code yX4_shows cX4_shows 2 (some .int), Cond.methodLink RX4 57 yX4_can, Cond.instanceMethod yX4_can, Cond.selects RX4 yX4_can yX4_can, Cond.code yX4_can cX4_can 3 (some .boolean), Cond.methodLink RX4 48 yX4_fivesFor, Cond.instanceMethod yX4_fivesFor]
def wsL_law0_r11 : List Cond := [Cond.selects RX4 yX4_fivesFor yX4_fivesFor, Cond.code yX4_fivesFor cX4_fivesFor 7 (some .int), Cond.methodLink RX4 61 yX4_comes, Cond.instanceMethod yX4_comes, Cond.selects RX4 yX4_comes yX4_comes, Cond.code yX4_comes cX4_comes 5 none, Cond.methodLink RX4 65 yX4_carries, Cond.instanceMethod yX4_carries, Cond.selects RX4 yX4_carries yX4_carries, Cond.code yX4_carries cX4_carries 4 (some .boolean), Cond.methodLink RX4 74 yX4_pays, Cond.instanceMethod yX4_pays, Cond.selects RX4 yX4_pays yX4_pays, Cond.code yX4_pays cX4_pays 3 (some .boolean), Cond.methodLink RX4 78 yX4_orders, Cond.instanceMethod yX4_orders, Cond.selects RX4 yX4_orders yX4_orders, Cond.code yX4_orders cX4_orders 2 (some .boolean), Cond.methodLink RX4 81 yX4_putBack, Cond.instanceMethod yX4_putBack, Cond.selects RX4 yX4_putBack yX4_putBack, Cond.code yX4_putBack cX4_putBack 2 none, Cond.methodLink RX4 106 yX4_does, Cond.instanceMethod yX4_does]
def wsL_law0_r12 : List Cond := [Cond.selects RX4 yX4_does yX4_does, Cond.code yX4_does cX4_does 6 (some .int), Cond.methodLink RL 85 yL_less, Cond.static yL_less, Cond.codeWith yL_less cL_less 5 (some .int) [(0, 10, 13, 13), (0, 10, 17, 15), (0, 10, 21, 17)], Cond.methodLink RL 30 yX3_less, Cond.instanceMethod yX3_less, Cond.selects RX3 yX3_less yX3_less, Cond.code yX3_less cX3_less 3 (some .int), Cond.methodLink RL 87 yX4_less, Cond.instanceMethod yX4_less, Cond.selects RX4 yX4_less yX4_less, Cond.code yX4_less cX4_less 3 (some .int), Cond.methodLink RL 88 yL_pay, Cond.static yL_pay, Cond.codeWith yL_pay cL_pay 4 (some .int) [(0, 9, 12, 13), (0, 9, 15, 17)], Cond.methodLink RL 33 yX3_pay, Cond.instanceMethod yX3_pay, Cond.selects RX3 yX3_pay yX3_pay, Cond.code yX3_pay cX3_pay 2 (some .int), Cond.fieldLink RX3 69 "StuckRods$Board" "loan" "[I", Cond.methodLink RX3 78 yX0_payIfPossible, Cond.instanceMethod yX0_payIfPossible, Cond.selects RX0 yX0_payIfPossible yX0_payIfPossible]
def wsL_law0_r13 : List Cond := [Cond.code yX0_payIfPossible cX0_payIfPossible 3 (some .int), Cond.methodLink RX0 63 yX0_change, Cond.methodLink RL 90 yX4_pay, Cond.instanceMethod yX4_pay, Cond.selects RX4 yX4_pay yX4_pay, Cond.code yX4_pay cX4_pay 2 (some .int), Cond.methodLink RL 91 yX3_tidy, Cond.instanceMethod yX3_tidy, Cond.selects RX3 yX3_tidy yX3_tidy, Cond.code yX3_tidy cX3_tidy 3 (some .int), Cond.methodLink RX3 82 yX0_orderIfPossible, Cond.instanceMethod yX0_orderIfPossible, Cond.selects RX0 yX0_orderIfPossible yX0_orderIfPossible, Cond.code yX0_orderIfPossible cX0_orderIfPossible 3 (some .int), Cond.methodLink RL 94 yX4_tidy, Cond.instanceMethod yX4_tidy, Cond.selects RX4 yX4_tidy yX4_tidy, Cond.code yX4_tidy cX4_tidy 5 (some .int), Cond.methodLink RL 95 yL_append, Cond.static yL_append, Cond.codeWith yL_append cL_append 4 (some .int) [(0, 9, 12, 15), (0, 9, 15, 17)], Cond.methodLink RL 36 yX3_append, Cond.instanceMethod yX3_append, Cond.selects RX3 yX3_append yX3_append]
def wsL_law0_r14 : List Cond := [Cond.code yX3_append cX3_append 2 (some .int), Cond.fieldLink RX3 85 "StuckRods$SumText" "length" "I", Cond.fieldLink RX3 90 "StuckRods$SumText" "codes" "[I", Cond.methodLink RL 97 yX4_append, Cond.instanceMethod yX4_append, Cond.selects RX4 yX4_append yX4_append, Cond.code yX4_append cX4_append 2 (some .int), Cond.fieldLink RX4 109 "StuckRodsModel" "length" "I", Cond.methodLink RL 98 yX3_clearBuffer, Cond.instanceMethod yX3_clearBuffer, Cond.selects RX3 yX3_clearBuffer yX3_clearBuffer, Cond.code yX3_clearBuffer cX3_clearBuffer 2 (some .int), Cond.methodLink RL 101 yX4_clearBuffer, Cond.instanceMethod yX4_clearBuffer, Cond.selects RX4 yX4_clearBuffer yX4_clearBuffer, Cond.code yX4_clearBuffer cX4_clearBuffer 2 (some .int), Cond.methodLink RL 102 yX3_firstError, Cond.instanceMethod yX3_firstError, Cond.selects RX3 yX3_firstError yX3_firstError, Cond.code yX3_firstError cX3_firstError 1 (some .int), Cond.methodLink RX3 93 yX2_firstWrong, Cond.instanceMethod yX2_firstWrong, Cond.selects RX2 yX2_firstWrong yX2_firstWrong, Cond.code yX2_firstWrong cX2_firstWrong 4 (some .int)]
def wsL_law0_r15 : List Cond := [Cond.static yX3_isSign, Cond.code yX3_isSign cX3_isSign 1 (some .boolean), Cond.static yX3_isDigit, Cond.code yX3_isDigit cX3_isDigit 1 (some .boolean), Cond.methodLink RL 105 yX4_firstError, Cond.instanceMethod yX4_firstError, Cond.selects RX4 yX4_firstError yX4_firstError, Cond.code yX4_firstError cX4_firstError 1 (some .int), Cond.methodLink RX4 112 yX4_wrong, Cond.instanceMethod yX4_wrong, Cond.selects RX4 yX4_wrong yX4_wrong, Cond.code yX4_wrong cX4_wrong 7 (some .int), Cond.methodLink RL 106 yL_reckon, Cond.static yL_reckon, Cond.codeWith yL_reckon cL_reckon 3 (some .int) [(0, 8, 11, 15)], Cond.methodLink RL 39 yX3_reckon, Cond.instanceMethod yX3_reckon, Cond.selects RX3 yX3_reckon yX3_reckon, Cond.code yX3_reckon cX3_reckon 5 (some .int), Cond.methodLink RX3 97 yX2_isCompleteSum, Cond.instanceMethod yX2_isCompleteSum, Cond.selects RX2 yX2_isCompleteSum yX2_isCompleteSum, Cond.code yX2_isCompleteSum cX2_isCompleteSum 1 (some .boolean), Cond.methodLink RX2 26 yX2_firstWrong]
def wsL_law0_r16 : List Cond := [Cond.methodLink RX3 106 yX3_isSign, Cond.methodLink RX3 110 yX2_digitsBehind, Cond.instanceMethod yX2_digitsBehind, Cond.selects RX2 yX2_digitsBehind yX2_digitsBehind, Cond.code yX2_digitsBehind cX2_digitsBehind 4 (some .int), Cond.methodLink RX3 113 yX3_reckonTerm, Cond.instanceMethod yX3_reckonTerm, Cond.selects RX3 yX3_reckonTerm yX3_reckonTerm, Cond.code yX3_reckonTerm cX3_reckonTerm 6 (some .int), Cond.methodLink RL 109 yX4_reckon, Cond.instanceMethod yX4_reckon, Cond.selects RX4 yX4_reckon yX4_reckon, Cond.code yX4_reckon cX4_reckon 3 (some .int), Cond.methodLink RX4 118 yX4_reckons, Cond.instanceMethod yX4_reckons, Cond.selects RX4 yX4_reckons yX4_reckons, Cond.code yX4_reckons cX4_reckons 5 (some .int), Cond.methodLink RX4 115 yX4_term, Cond.instanceMethod yX4_term, Cond.selects RX4 yX4_term yX4_term, Cond.code yX4_term cX4_term 6 (some .int), Cond.methodLink RL 110 yL_undo, Cond.static yL_undo, Cond.codeWith yL_undo cL_undo 3 (some .int) [(0, 8, 11, 17)]]
def wsL_law0_r17 : List Cond := [Cond.methodLink RL 43 yX3_undo, Cond.instanceMethod yX3_undo, Cond.selects RX3 yX3_undo yX3_undo, Cond.code yX3_undo cX3_undo 1 (some .int), Cond.fieldLink RX3 116 "StuckRods$History" "size" "I", Cond.methodLink RX3 121 yX1_restore, Cond.instanceMethod yX1_restore, Cond.selects RX1 yX1_restore yX1_restore, Cond.code yX1_restore cX1_restore 2 none, Cond.methodLink RL 112 yX4_undo, Cond.instanceMethod yX4_undo, Cond.selects RX4 yX4_undo yX4_undo, Cond.code yX4_undo cX4_undo 2 (some .int), Cond.methodLink RL 113 yL_rod, Cond.static yL_rod, Cond.codeWith yL_rod cL_rod 5 (some .int) [(0, 10, 13, 13), (0, 10, 17, 15)], Cond.methodLink RL 46 yX3_rod, Cond.instanceMethod yX3_rod, Cond.selects RX3 yX3_rod yX3_rod, Cond.code yX3_rod cX3_rod 3 (some .int), Cond.fieldLink RX3 124 "StuckRods$Board" "fives" "[I", Cond.fieldLink RX3 127 "StuckRods$Board" "ones" "[I", Cond.fieldLink RX3 133 "StuckRods$Board" "moved" "[I", Cond.fieldLink RX3 136 "StuckRods$Board" "borrowed" "[I"]
def wsL_law0_r18 : List Cond := [Cond.methodLink RX3 130 yX0_shown, Cond.methodLink RX3 139 yX0_reach, Cond.instanceMethod yX0_reach, Cond.selects RX0 yX0_reach yX0_reach, Cond.code yX0_reach cX0_reach 4 (some .int), Cond.methodLink RL 115 yX4_rod, Cond.instanceMethod yX4_rod, Cond.selects RX4 yX4_rod yX4_rod, Cond.code yX4_rod cX4_rod 3 (some .int), Cond.methodLink RX4 124 yX4_told, Cond.instanceMethod yX4_told, Cond.selects RX4 yX4_told yX4_told, Cond.code yX4_told cX4_told 3 (some .int), Cond.methodLink RX4 121 yX4_numbers, Cond.instanceMethod yX4_numbers, Cond.selects RX4 yX4_numbers yX4_numbers, Cond.code yX4_numbers cX4_numbers 4 (some .int), Cond.methodLink RL 116 yX3_whole, Cond.instanceMethod yX3_whole, Cond.selects RX3 yX3_whole yX3_whole, Cond.code yX3_whole cX3_whole 6 (some .long), Cond.constantLong RX3 142 (10), Cond.methodLink RL 120 yX4_whole, Cond.instanceMethod yX4_whole]
def wsL_law0_r19 : List Cond := [Cond.selects RX4 yX4_whole yX4_whole, Cond.code yX4_whole cX4_whole 1 (some .long), Cond.methodLink RX4 129 yX4_all, Cond.instanceMethod yX4_all, Cond.selects RX4 yX4_all yX4_all, Cond.code yX4_all cX4_all 4 (some .long), Cond.constantLong RX4 127 (10), Cond.methodLink RL 121 yL_count, Cond.static yL_count, Cond.codeWith yL_count cL_count 4 (some .int) [(0, 9, 12, 15)], Cond.methodLink RL 49 yX3_count, Cond.instanceMethod yX3_count, Cond.selects RX3 yX3_count yX3_count, Cond.code yX3_count cX3_count 2 (some .int), Cond.methodLink RX3 144 yX0_allMoved, Cond.instanceMethod yX0_allMoved, Cond.selects RX0 yX0_allMoved yX0_allMoved, Cond.code yX0_allMoved cX0_allMoved 3 (some .int), Cond.methodLink RX3 147 yX0_rodsWithLoan, Cond.instanceMethod yX0_rodsWithLoan, Cond.selects RX0 yX0_rodsWithLoan yX0_rodsWithLoan, Cond.code yX0_rodsWithLoan cX0_rodsWithLoan 3 (some .int), Cond.methodLink RX3 150 yX0_allLoans, Cond.instanceMethod yX0_allLoans]
def wsL_law0_r20 : List Cond := [Cond.selects RX0 yX0_allLoans yX0_allLoans, Cond.code yX0_allLoans cX0_allLoans 3 (some .int), Cond.methodLink RX3 153 yX0_allShown, Cond.instanceMethod yX0_allShown, Cond.selects RX0 yX0_allShown yX0_allShown, Cond.code yX0_allShown cX0_allShown 3 (some .int), Cond.methodLink RX3 156 yJ9_floorMod_7cf53, Cond.static yJ9_floorMod_7cf53, Cond.initialized RJ9, Cond.code yJ9_floorMod_7cf53 cJ9_floorMod_7cf53 3 (some .int), Cond.methodLink RX3 161 yX0_rodsOutOfOrder, Cond.instanceMethod yX0_rodsOutOfOrder, Cond.selects RX0 yX0_rodsOutOfOrder yX0_rodsOutOfOrder, Cond.code yX0_rodsOutOfOrder cX0_rodsOutOfOrder 3 (some .int), Cond.methodLink RX3 164 yX0_rodsWithStuck, Cond.instanceMethod yX0_rodsWithStuck, Cond.selects RX0 yX0_rodsWithStuck yX0_rodsWithStuck, Cond.code yX0_rodsWithStuck cX0_rodsWithStuck 3 (some .int), Cond.methodLink RL 123 yX4_count, Cond.instanceMethod yX4_count, Cond.selects RX4 yX4_count yX4_count, Cond.code yX4_count cX4_count 2 (some .int), Cond.methodLink RX4 136 yX4_counted, Cond.instanceMethod yX4_counted]
def wsL_law0_r21 : List Cond := [Cond.selects RX4 yX4_counted yX4_counted, Cond.code yX4_counted cX4_counted 2 (some .int), Cond.methodLink RX4 133 yX4_sum, Cond.instanceMethod yX4_sum, Cond.selects RX4 yX4_sum yX4_sum, Cond.code yX4_sum cX4_sum 5 (some .int), Cond.methodLink RL 124 yL_moves, Cond.static yL_moves, Cond.codeWith yL_moves cL_moves 5 (some .int) [(0, 10, 13, 13), (0, 10, 17, 15)], Cond.methodLink RL 52 yX3_moves, Cond.instanceMethod yX3_moves, Cond.selects RX3 yX3_moves yX3_moves, Cond.code yX3_moves cX3_moves 3 (some .int), Cond.methodLink RX3 167 yX0_turn, Cond.methodLink RL 126 yX4_moves, Cond.instanceMethod yX4_moves, Cond.selects RX4 yX4_moves yX4_moves, Cond.code yX4_moves cX4_moves 3 (some .int), Cond.methodLink RX4 139 yX4_movesFor, Cond.instanceMethod yX4_movesFor, Cond.selects RX4 yX4_movesFor yX4_movesFor, Cond.code yX4_movesFor cX4_movesFor 4 (some .int), Cond.methodLink RL 127 yL_ifAdded, Cond.static yL_ifAdded]
def wsL_law0_r22 : List Cond := [Cond.codeWith yL_ifAdded cL_ifAdded 5 (some .int) [(0, 10, 13, 13), (0, 10, 17, 15)], Cond.methodLink RL 55 yX3_ifAdded, Cond.instanceMethod yX3_ifAdded, Cond.selects RX3 yX3_ifAdded yX3_ifAdded, Cond.code yX3_ifAdded cX3_ifAdded 3 (some .int), Cond.methodLink RL 129 yX4_ifAdded, Cond.instanceMethod yX4_ifAdded, Cond.selects RX4 yX4_ifAdded yX4_ifAdded, Cond.code yX4_ifAdded cX4_ifAdded 3 (some .int), Cond.methodLink RL 130 yL_toShow, Cond.static yL_toShow, Cond.codeWith yL_toShow cL_toShow 4 (some .int) [(0, 9, 12, 15)], Cond.methodLink RL 58 yX3_toShow, Cond.instanceMethod yX3_toShow, Cond.selects RX3 yX3_toShow yX3_toShow, Cond.code yX3_toShow cX3_toShow 6 (some .int), Cond.constant RX3 170 (999999999), Cond.methodLink RL 132 yX4_toShow, Cond.instanceMethod yX4_toShow, Cond.selects RX4 yX4_toShow yX4_toShow, Cond.code yX4_toShow cX4_toShow 2 (some .int), Cond.constant RX4 142 (999999999), Cond.methodLink RX4 143 yX4_showing, Cond.instanceMethod yX4_showing]
def wsL_law0_r23 : List Cond := [Cond.selects RX4 yX4_showing yX4_showing, Cond.code yX4_showing cX4_showing 7 (some .int), Cond.methodLink RL 133 yX3_cheapestLoan, Cond.instanceMethod yX3_cheapestLoan, Cond.selects RX3 yX3_cheapestLoan yX3_cheapestLoan, Cond.code yX3_cheapestLoan cX3_cheapestLoan 5 (some .int), Cond.methodLink RL 136 yX4_cheapestLoan, Cond.instanceMethod yX4_cheapestLoan, Cond.selects RX4 yX4_cheapestLoan yX4_cheapestLoan, Cond.code yX4_cheapestLoan cX4_cheapestLoan 1 (some .int), Cond.methodLink RX4 146 yX4_cheapest, Cond.instanceMethod yX4_cheapest, Cond.selects RX4 yX4_cheapest yX4_cheapest, Cond.code yX4_cheapest cX4_cheapest 6 (some .int), Cond.methodLink RL 137 yX3_looseness, Cond.instanceMethod yX3_looseness, Cond.selects RX3 yX3_looseness yX3_looseness, Cond.code yX3_looseness cX3_looseness 3 (some .double), Cond.constantDouble RX3 171 (4639270566145032192), Cond.methodLink RL 141 yX4_looseness, Cond.instanceMethod yX4_looseness, Cond.selects RX4 yX4_looseness yX4_looseness, Cond.code yX4_looseness cX4_looseness 1 (some .double), Cond.methodLink RX4 151 yX4_loose]
def wsL_law0_r24 : List Cond := [Cond.instanceMethod yX4_loose, Cond.selects RX4 yX4_loose yX4_loose, Cond.code yX4_loose cX4_loose 3 (some .double), Cond.constantDouble RX4 149 (4639270566145032192), Cond.methodLink RL 142 yX3_digest, Cond.instanceMethod yX3_digest, Cond.selects RX3 yX3_digest yX3_digest, Cond.code yX3_digest cX3_digest 5 (some .long), Cond.constantLong RX3 173 (3299), Cond.constant RX3 198 (123456789), Cond.methodLink RX3 175 yX3_count, Cond.methodLink RX3 178 yX3_mixed, Cond.static yX3_mixed, Cond.code yX3_mixed cX3_mixed 4 (some .long), Cond.constantLong RX3 219 (31), Cond.methodLink RX3 182 yX3_whole, Cond.methodLink RX3 186 yX3_rod, Cond.methodLink RX3 189 yX3_moves, Cond.methodLink RX3 192 yX3_ifAdded, Cond.methodLink RX3 195 yX3_toShow, Cond.methodLink RX3 199 yX3_cheapestLoan, Cond.methodLink RX3 202 yX3_looseness, Cond.methodLink RX3 206 yX3_bitsOf, Cond.static yX3_bitsOf]
def wsL_law0_r25 : List Cond := [Cond.code yX3_bitsOf cX3_bitsOf 6 (some .long), Cond.constantLong RX3 221 (1023), Cond.constantDouble RX3 223 (4611686018427387904), Cond.constantDouble RX3 225 (4841369599423283200), Cond.methodLink RL 145 yX4_digest, Cond.instanceMethod yX4_digest, Cond.selects RX4 yX4_digest yX4_digest, Cond.code yX4_digest cX4_digest 2 (some .long), Cond.constantLong RX4 173 (3299), Cond.fieldLink RX4 165 "StuckRodsModel" "digested" "J", Cond.constant RX4 179 (123456789), Cond.methodLink RX4 169 yX4_digestOne, Cond.instanceMethod yX4_digestOne, Cond.selects RX4 yX4_digestOne yX4_digestOne, Cond.code yX4_digestOne cX4_digestOne 3 none, Cond.constantLong RX4 163 (31), Cond.methodLink RX4 175 yX4_digestRod, Cond.instanceMethod yX4_digestRod, Cond.selects RX4 yX4_digestRod yX4_digestRod, Cond.code yX4_digestRod cX4_digestRod 3 none, Cond.methodLink RX4 180 yX4_bitsOf, Cond.static yX4_bitsOf, Cond.code yX4_bitsOf cX4_bitsOf 6 (some .long), Cond.constantLong RX4 155 (1023)]
def wsL_law0_r26 : List Cond := [Cond.constantDouble RX4 157 (4611686018427387904), Cond.constantLong RX4 159 (4503599627370496), Cond.constantDouble RX4 161 (4841369599423283200)]
def wsL_law0 : List Cond := (wsL_law0_r1 ++ (wsL_law0_r2 ++ (wsL_law0_r3 ++ (wsL_law0_r4 ++ (wsL_law0_r5 ++ (wsL_law0_r6 ++ (wsL_law0_r7 ++ (wsL_law0_r8 ++ (wsL_law0_r9 ++ (wsL_law0_r10 ++ (wsL_law0_r11 ++ (wsL_law0_r12 ++ (wsL_law0_r13 ++ (wsL_law0_r14 ++ (wsL_law0_r15 ++ (wsL_law0_r16 ++ (wsL_law0_r17 ++ (wsL_law0_r18 ++ (wsL_law0_r19 ++ (wsL_law0_r20 ++ (wsL_law0_r21 ++ (wsL_law0_r22 ++ (wsL_law0_r23 ++ (wsL_law0_r24 ++ (wsL_law0_r25 ++ wsL_law0_r26))))))))))))))))))))))))) ++ wsX30 ++ wsX40 ++ wsX00 ++ wsX10 ++ wsX20 ++ ([] : List Cond)
def wsL_law : List Cond := wsL_law0 ++ (vx_atS RX3 46 "java/lang/IllegalStateException" ["java/lang/RuntimeException", "java/lang/Exception"]).filter goodWord ++ (vx_atS RX3 214 "java/lang/IndexOutOfBoundsException" ["java/lang/RuntimeException", "java/lang/Exception"]).filter goodWord ++ (vx_atS RX3 105 "java/lang/IllegalArgumentException" ["java/lang/RuntimeException", "java/lang/Exception"]).filter goodWord
abbrev vwCl : List vw_C := [(RX0, TX0, 7), (RX1, TX1, 3), (RX2, TX2, 2), (RX3, TX3, 3), (RX4, TX4, 8)]
end
section
theorem mem_at {big ws : List Cond} (ps : List Nat) (hp : ws = ps.filterMap (fun i => big[i]?)) : ∀ w ∈ ws, w ∈ big := by
  intro w hw
  rw [hp] at hw
  obtain ⟨i, -, hi⟩ := List.mem_filterMap.mp hw
  exact List.mem_of_getElem? hi
theorem in_wsL_law0_r1 : ∀ w ∈ wsL_law0_r1, w ∈ lw_tbl := mem_at [50, 51, 38, 517, 518, 42, 797, 52, 53, 54, 55, 56, 57, 58, 59, 39, 129, 94, 95, 40, 130, 114, 115, 41] (by decide +kernel)
theorem in_wsL_law0_r2 : ∀ w ∈ wsL_law0_r2, w ∈ lw_tbl := mem_at [131, 60, 61, 62, 63, 93, 64, 66, 68, 70, 72, 74, 76, 96, 97, 98, 99, 100, 103, 104, 105, 102, 116, 117] (by decide +kernel)
theorem in_wsL_law0_r3 : ∀ w ∈ wsL_law0_r3, w ∈ lw_tbl := mem_at [118, 119, 120, 122, 519, 520, 521, 522, 524, 525, 526, 528, 386, 387, 37, 388, 389, 390, 391, 392, 393, 394, 395, 397] (by decide +kernel)
theorem in_wsL_law0_r4 : ∀ w ∈ wsL_law0_r4, w ∈ lw_tbl := mem_at [49, 344, 345, 346, 347, 46, 237, 238, 239, 240, 47, 396, 168, 169, 170, 171, 172, 48, 173, 143, 144, 145, 146, 147] (by decide +kernel)
theorem in_wsL_law0_r5 : ∀ w ∈ wsL_law0_r5, w ∈ lw_tbl := mem_at [148, 149, 150, 413, 175, 176, 177, 552, 553, 554, 555, 556, 557, 558, 559, 560, 561, 562, 564, 3, 565, 566, 567, 568] (by decide +kernel)
theorem in_wsL_law0_r6 : ∀ w ∈ wsL_law0_r6, w ∈ lw_tbl := mem_at [569, 571, 4, 572, 523, 573, 575, 5, 576, 527, 577, 579, 6, 580, 581, 583, 7, 584, 585, 586, 587, 548, 549, 550] (by decide +kernel)
theorem in_wsL_law0_r7 : ∀ w ∈ wsL_law0_r7, w ∈ lw_tbl := mem_at [551, 414, 415, 416, 417, 418, 419, 420, 69, 588, 589, 590, 591, 592, 594, 8, 595, 421, 422, 423, 424, 425, 426, 427] (by decide +kernel)
theorem in_wsL_law0_r8 : ∀ w ∈ wsL_law0_r8, w ∈ lw_tbl := mem_at [77, 596, 597, 598, 599, 428, 429, 430, 431, 432, 433, 434, 435, 437, 1, 438, 218, 156, 157, 158, 159, 160, 161, 162] (by decide +kernel)
theorem in_wsL_law0_r9 : ∀ w ∈ wsL_law0_r9, w ∈ lw_tbl := mem_at [163, 164, 165, 166, 167, 174, 178, 179, 180, 181, 182, 183, 184, 185, 600, 601, 602, 603, 604, 606, 9, 607, 608, 610] (by decide +kernel)
theorem in_wsL_law0_r10 : ∀ w ∈ wsL_law0_r10, w ∈ lw_tbl := mem_at [10, 611, 612, 614, 11, 615, 616, 618, 12, 619, 620, 622, 13, 623, 624, 626, 14, 627, 628, 630, 15, 631, 632, 634] (by decide +kernel)
theorem in_wsL_law0_r11 : ∀ w ∈ wsL_law0_r11, w ∈ lw_tbl := mem_at [16, 635, 636, 638, 17, 639, 640, 642, 18, 643, 644, 646, 19, 647, 648, 650, 20, 651, 652, 654, 21, 655, 656, 658] (by decide +kernel)
theorem in_wsL_law0_r12 : ∀ w ∈ wsL_law0_r12, w ∈ lw_tbl := mem_at [22, 659, 440, 441, 442, 443, 444, 445, 446, 660, 661, 662, 663, 447, 448, 449, 450, 451, 452, 453, 71, 151, 152, 153] (by decide +kernel)
theorem in_wsL_law0_r13 : ∀ w ∈ wsL_law0_r13, w ∈ lw_tbl := mem_at [154, 155, 664, 665, 666, 667, 139, 140, 141, 142, 186, 187, 188, 189, 668, 669, 670, 671, 455, 456, 457, 458, 459, 460] (by decide +kernel)
theorem in_wsL_law0_r14 : ∀ w ∈ wsL_law0_r14, w ∈ lw_tbl := mem_at [461, 123, 121, 672, 673, 674, 675, 529, 190, 191, 192, 193, 676, 677, 678, 679, 194, 195, 196, 197, 198, 199, 200, 201] (by decide +kernel)
theorem in_wsL_law0_r15 : ∀ w ∈ wsL_law0_r15, w ∈ lw_tbl := mem_at [203, 204, 206, 207, 680, 681, 682, 683, 684, 686, 23, 687, 463, 464, 465, 466, 467, 468, 469, 470, 471, 472, 473, 474] (by decide +kernel)
theorem in_wsL_law0_r16 : ∀ w ∈ wsL_law0_r16, w ∈ lw_tbl := mem_at [476, 477, 478, 479, 480, 481, 483, 2, 484, 688, 689, 690, 691, 692, 694, 24, 695, 696, 698, 25, 699, 485, 486, 487] (by decide +kernel)
theorem in_wsL_law0_r17 : ∀ w ∈ wsL_law0_r17, w ∈ lw_tbl := mem_at [488, 489, 490, 491, 106, 493, 494, 495, 496, 700, 701, 702, 703, 497, 498, 499, 500, 341, 342, 343, 65, 67, 73, 75] (by decide +kernel)
theorem in_wsL_law0_r18 : ∀ w ∈ wsL_law0_r18, w ∈ lw_tbl := mem_at [212, 223, 224, 225, 226, 704, 705, 706, 707, 708, 710, 26, 711, 712, 714, 27, 715, 208, 209, 210, 211, 213, 716, 717] (by decide +kernel)
theorem in_wsL_law0_r19 : ∀ w ∈ wsL_law0_r19, w ∈ lw_tbl := mem_at [718, 719, 720, 722, 28, 723, 724, 501, 502, 503, 504, 234, 235, 236, 308, 309, 310, 311, 312, 313, 314, 315, 316, 317] (by decide +kernel)
theorem in_wsL_law0_r20 : ∀ w ∈ wsL_law0_r20, w ∈ lw_tbl := mem_at [318, 319, 320, 321, 322, 323, 324, 325, 48, 326, 327, 328, 329, 330, 331, 332, 333, 334, 725, 726, 727, 728, 729, 731] (by decide +kernel)
theorem in_wsL_law0_r21 : ∀ w ∈ wsL_law0_r21, w ∈ lw_tbl := mem_at [29, 732, 733, 735, 30, 736, 505, 506, 507, 508, 364, 365, 366, 367, 737, 738, 739, 740, 741, 743, 31, 744, 509, 510] (by decide +kernel)
theorem in_wsL_law0_r22 : ∀ w ∈ wsL_law0_r22, w ∈ lw_tbl := mem_at [511, 512, 369, 370, 371, 745, 746, 747, 748, 513, 514, 515, 516, 373, 374, 375, 376, 749, 750, 751, 752, 753, 754, 756] (by decide +kernel)
theorem in_wsL_law0_r23 : ∀ w ∈ wsL_law0_r23, w ∈ lw_tbl := mem_at [32, 757, 214, 215, 216, 217, 758, 759, 760, 761, 762, 764, 33, 765, 219, 220, 221, 222, 227, 766, 767, 768, 769, 770] (by decide +kernel)
theorem in_wsL_law0_r24 : ∀ w ∈ wsL_law0_r24, w ∈ lw_tbl := mem_at [772, 34, 773, 774, 228, 229, 230, 231, 232, 377, 233, 335, 336, 337, 338, 339, 340, 363, 368, 372, 378, 379, 380, 381] (by decide +kernel)
theorem in_wsL_law0_r25 : ∀ w ∈ wsL_law0_r25, w ∈ lw_tbl := mem_at [382, 383, 384, 385, 775, 776, 777, 778, 779, 530, 789, 780, 782, 35, 783, 784, 785, 787, 36, 788, 790, 791, 792, 793] (by decide +kernel)
theorem in_wsL_law0_r26 : ∀ w ∈ wsL_law0_r26, w ∈ lw_tbl := mem_at [794, 795, 796] (by decide +kernel)
theorem in_wsX00 : ∀ w ∈ wsX00, w ∈ lw_tbl := mem_at [78, 80, 82, 84, 86, 88, 90] (by decide +kernel)
theorem in_wsX10 : ∀ w ∈ wsX10, w ∈ lw_tbl := mem_at [107, 109, 111] (by decide +kernel)
theorem in_wsX20 : ∀ w ∈ wsX20, w ∈ lw_tbl := mem_at [124, 126] (by decide +kernel)
theorem in_wsX30 : ∀ w ∈ wsX30, w ∈ lw_tbl := mem_at [132, 134, 136] (by decide +kernel)
theorem in_wsX40 : ∀ w ∈ wsX40, w ∈ lw_tbl := mem_at [531, 533, 535, 537, 539, 541, 543, 545] (by decide +kernel)
theorem wsL_law_in0 : ∀ w ∈ wsL_law0, w ∈ lw_tbl := fun w h => (List.mem_append.mp h).elim (fun h => (fun w h => (List.mem_append.mp h).elim (fun h => (fun w h => (List.mem_append.mp h).elim (fun h => (fun w h => (List.mem_append.mp h).elim (fun h => (fun w h => (List.mem_append.mp h).elim (fun h => (fun w h => (List.mem_append.mp h).elim (fun h => (fun w h => (List.mem_append.mp h).elim (fun h => in_wsL_law0_r1 w h) (fun h => (List.mem_append.mp h).elim (fun h => in_wsL_law0_r2 w h) (fun h => (List.mem_append.mp h).elim (fun h => in_wsL_law0_r3 w h) (fun h => (List.mem_append.mp h).elim (fun h => in_wsL_law0_r4 w h) (fun h => (List.mem_append.mp h).elim (fun h => in_wsL_law0_r5 w h) (fun h => (List.mem_append.mp h).elim (fun h => in_wsL_law0_r6 w h) (fun h => (List.mem_append.mp h).elim (fun h => in_wsL_law0_r7 w h) (fun h => (List.mem_append.mp h).elim (fun h => in_wsL_law0_r8 w h) (fun h => (List.mem_append.mp h).elim (fun h => in_wsL_law0_r9 w h) (fun h => (List.mem_append.mp h).elim (fun h => in_wsL_law0_r10 w h) (fun h => (List.mem_append.mp h).elim (fun h => in_wsL_law0_r11 w h) (fun h => (List.mem_append.mp h).elim (fun h => in_wsL_law0_r12 w h) (fun h => (List.mem_append.mp h).elim (fun h => in_wsL_law0_r13 w h) (fun h => (List.mem_append.mp h).elim (fun h => in_wsL_law0_r14 w h) (fun h => (List.mem_append.mp h).elim (fun h => in_wsL_law0_r15 w h) (fun h => (List.mem_append.mp h).elim (fun h => in_wsL_law0_r16 w h) (fun h => (List.mem_append.mp h).elim (fun h => in_wsL_law0_r17 w h) (fun h => (List.mem_append.mp h).elim (fun h => in_wsL_law0_r18 w h) (fun h => (List.mem_append.mp h).elim (fun h => in_wsL_law0_r19 w h) (fun h => (List.mem_append.mp h).elim (fun h => in_wsL_law0_r20 w h) (fun h => (List.mem_append.mp h).elim (fun h => in_wsL_law0_r21 w h) (fun h => (List.mem_append.mp h).elim (fun h => in_wsL_law0_r22 w h) (fun h => (List.mem_append.mp h).elim (fun h => in_wsL_law0_r23 w h) (fun h => (List.mem_append.mp h).elim (fun h => in_wsL_law0_r24 w h) (fun h => (List.mem_append.mp h).elim (fun h => in_wsL_law0_r25 w h) (fun h => in_wsL_law0_r26 w h)))))))))))))))))))))))))) w h) (fun h => in_wsX30 w h)) w h) (fun h => in_wsX40 w h)) w h) (fun h => in_wsX00 w h)) w h) (fun h => in_wsX10 w h)) w h) (fun h => in_wsX20 w h)) w h) (fun h => absurd h List.not_mem_nil)
theorem wsL_law_x0 : ∀ w ∈ (vx_atS RX3 46 "java/lang/IllegalStateException" ["java/lang/RuntimeException", "java/lang/Exception"]).filter goodWord, w ∈ lw_tbl := by decide +kernel
theorem wsL_law_x1 : ∀ w ∈ (vx_atS RX3 214 "java/lang/IndexOutOfBoundsException" ["java/lang/RuntimeException", "java/lang/Exception"]).filter goodWord, w ∈ lw_tbl := by decide +kernel
theorem wsL_law_x2 : ∀ w ∈ (vx_atS RX3 105 "java/lang/IllegalArgumentException" ["java/lang/RuntimeException", "java/lang/Exception"]).filter goodWord, w ∈ lw_tbl := by decide +kernel
theorem wsL_law_in : ∀ w ∈ wsL_law, w ∈ lw_tbl := fun w h => (List.mem_append.mp h).elim (fun h => (List.mem_append.mp h).elim (fun h => (List.mem_append.mp h).elim (fun h => wsL_law_in0 w h) (fun h => wsL_law_x0 w h)) (fun h => wsL_law_x1 w h)) (fun h => wsL_law_x2 w h)
theorem inlX0 : ∀ w ∈ wsX00, w ∈ wsL_law := fun _ h => List.mem_append_left _ (List.mem_append_left _ (List.mem_append_left _ (List.mem_append_left _ (List.mem_append_left _ (List.mem_append_left _ (List.mem_append_right _ h))))))
theorem inX0 : ∀ w ∈ wsX00, w ∈ lw_tbl := fun w h => wsL_law_in w (inlX0 w h)
theorem inlX1 : ∀ w ∈ wsX10, w ∈ wsL_law := fun _ h => List.mem_append_left _ (List.mem_append_left _ (List.mem_append_left _ (List.mem_append_left _ (List.mem_append_left _ (List.mem_append_right _ h)))))
theorem inX1 : ∀ w ∈ wsX10, w ∈ lw_tbl := fun w h => wsL_law_in w (inlX1 w h)
theorem inlX2 : ∀ w ∈ wsX20, w ∈ wsL_law := fun _ h => List.mem_append_left _ (List.mem_append_left _ (List.mem_append_left _ (List.mem_append_left _ (List.mem_append_right _ h))))
theorem inX2 : ∀ w ∈ wsX20, w ∈ lw_tbl := fun w h => wsL_law_in w (inlX2 w h)
theorem inlX3 : ∀ w ∈ wsX30, w ∈ wsL_law := fun _ h => List.mem_append_left _ (List.mem_append_left _ (List.mem_append_left _ (List.mem_append_left _ (List.mem_append_left _ (List.mem_append_left _ (List.mem_append_left _ (List.mem_append_left _ (List.mem_append_right _ h))))))))
theorem inX3 : ∀ w ∈ wsX30, w ∈ lw_tbl := fun w h => wsL_law_in w (inlX3 w h)
theorem inlX4 : ∀ w ∈ wsX40, w ∈ wsL_law := fun _ h => List.mem_append_left _ (List.mem_append_left _ (List.mem_append_left _ (List.mem_append_left _ (List.mem_append_left _ (List.mem_append_left _ (List.mem_append_left _ (List.mem_append_right _ h)))))))
theorem inX4 : ∀ w ∈ wsX40, w ∈ lw_tbl := fun w h => wsL_law_in w (inlX4 w h)
theorem inJ9 : ∀ w ∈ wsJ90, w ∈ lw_tbl := by decide +kernel
theorem inJ0 : ∀ w ∈ wsJ00, w ∈ lw_tbl := by decide +kernel
end
section
theorem dX0_init_0 : decode cX0_init 0 = .ok (.aload_n 0, 1) := by decide +kernel
theorem dX0_init_1 : decode cX0_init 1 = .ok (.invokespecial 3, 3) := by decide +kernel
theorem dX0_init_4 : decode cX0_init 4 = .ok (.aload_n 0, 1) := by decide +kernel
theorem dX0_init_5 : decode cX0_init 5 = .ok (.bipush 9, 2) := by decide +kernel
theorem dX0_init_7 : decode cX0_init 7 = .ok (.newarray .int, 2) := by decide +kernel
theorem dX0_init_9 : decode cX0_init 9 = .ok (.putfield 9, 3) := by decide +kernel
theorem dX0_init_12 : decode cX0_init 12 = .ok (.aload_n 0, 1) := by decide +kernel
theorem dX0_init_13 : decode cX0_init 13 = .ok (.bipush 9, 2) := by decide +kernel
theorem dX0_init_15 : decode cX0_init 15 = .ok (.newarray .int, 2) := by decide +kernel
theorem dX0_init_17 : decode cX0_init 17 = .ok (.putfield 15, 3) := by decide +kernel
theorem dX0_init_20 : decode cX0_init 20 = .ok (.aload_n 0, 1) := by decide +kernel
theorem dX0_init_21 : decode cX0_init 21 = .ok (.bipush 9, 2) := by decide +kernel
theorem dX0_init_23 : decode cX0_init 23 = .ok (.newarray .int, 2) := by decide +kernel
theorem dX0_init_25 : decode cX0_init 25 = .ok (.putfield 18, 3) := by decide +kernel
theorem dX0_init_28 : decode cX0_init 28 = .ok (.aload_n 0, 1) := by decide +kernel
theorem dX0_init_29 : decode cX0_init 29 = .ok (.bipush 9, 2) := by decide +kernel
theorem dX0_init_31 : decode cX0_init 31 = .ok (.newarray .int, 2) := by decide +kernel
theorem dX0_init_33 : decode cX0_init 33 = .ok (.putfield 21, 3) := by decide +kernel
theorem dX0_init_36 : decode cX0_init 36 = .ok (.aload_n 0, 1) := by decide +kernel
theorem dX0_init_37 : decode cX0_init 37 = .ok (.bipush 9, 2) := by decide +kernel
theorem dX0_init_39 : decode cX0_init 39 = .ok (.newarray .int, 2) := by decide +kernel
theorem dX0_init_41 : decode cX0_init 41 = .ok (.putfield 24, 3) := by decide +kernel
theorem dX0_init_44 : decode cX0_init 44 = .ok (.aload_n 0, 1) := by decide +kernel
theorem dX0_init_45 : decode cX0_init 45 = .ok (.bipush 9, 2) := by decide +kernel
theorem dX0_init_47 : decode cX0_init 47 = .ok (.newarray .int, 2) := by decide +kernel
theorem dX0_init_49 : decode cX0_init 49 = .ok (.putfield 27, 3) := by decide +kernel
theorem dX0_init_52 : decode cX0_init 52 = .ok (.aload_n 0, 1) := by decide +kernel
theorem dX0_init_53 : decode cX0_init 53 = .ok (.iconst 3, 1) := by decide +kernel
theorem dX0_init_54 : decode cX0_init 54 = .ok (.putfield 30, 3) := by decide +kernel
theorem dX0_init_57 : decode cX0_init 57 = .ok (.return_, 1) := by decide +kernel
theorem dX0_copyFrom_0 : decode cX0_copyFrom 0 = .ok (.iconst 0, 1) := by decide +kernel
theorem dX0_copyFrom_1 : decode cX0_copyFrom 1 = .ok (.istore_n 2, 1) := by decide +kernel
theorem dX0_copyFrom_2 : decode cX0_copyFrom 2 = .ok (.iload_n 2, 1) := by decide +kernel
theorem dX0_copyFrom_3 : decode cX0_copyFrom 3 = .ok (.bipush 9, 2) := by decide +kernel
theorem dX0_copyFrom_5 : decode cX0_copyFrom 5 = .ok (.if_icmp .ge 81, 3) := by decide +kernel
theorem dX0_copyFrom_8 : decode cX0_copyFrom 8 = .ok (.aload_n 0, 1) := by decide +kernel
theorem dX0_copyFrom_9 : decode cX0_copyFrom 9 = .ok (.getfield 9, 3) := by decide +kernel
theorem dX0_copyFrom_12 : decode cX0_copyFrom 12 = .ok (.iload_n 2, 1) := by decide +kernel
theorem dX0_copyFrom_13 : decode cX0_copyFrom 13 = .ok (.aload_n 1, 1) := by decide +kernel
theorem dX0_copyFrom_14 : decode cX0_copyFrom 14 = .ok (.getfield 9, 3) := by decide +kernel
theorem dX0_copyFrom_17 : decode cX0_copyFrom 17 = .ok (.iload_n 2, 1) := by decide +kernel
theorem dX0_copyFrom_18 : decode cX0_copyFrom 18 = .ok (.iaload, 1) := by decide +kernel
theorem dX0_copyFrom_19 : decode cX0_copyFrom 19 = .ok (.iastore, 1) := by decide +kernel
theorem dX0_copyFrom_20 : decode cX0_copyFrom 20 = .ok (.aload_n 0, 1) := by decide +kernel
theorem dX0_copyFrom_21 : decode cX0_copyFrom 21 = .ok (.getfield 15, 3) := by decide +kernel
theorem dX0_copyFrom_24 : decode cX0_copyFrom 24 = .ok (.iload_n 2, 1) := by decide +kernel
theorem dX0_copyFrom_25 : decode cX0_copyFrom 25 = .ok (.aload_n 1, 1) := by decide +kernel
theorem dX0_copyFrom_26 : decode cX0_copyFrom 26 = .ok (.getfield 15, 3) := by decide +kernel
theorem dX0_copyFrom_29 : decode cX0_copyFrom 29 = .ok (.iload_n 2, 1) := by decide +kernel
theorem dX0_copyFrom_30 : decode cX0_copyFrom 30 = .ok (.iaload, 1) := by decide +kernel
theorem dX0_copyFrom_31 : decode cX0_copyFrom 31 = .ok (.iastore, 1) := by decide +kernel
theorem dX0_copyFrom_32 : decode cX0_copyFrom 32 = .ok (.aload_n 0, 1) := by decide +kernel
theorem dX0_copyFrom_33 : decode cX0_copyFrom 33 = .ok (.getfield 18, 3) := by decide +kernel
theorem dX0_copyFrom_36 : decode cX0_copyFrom 36 = .ok (.iload_n 2, 1) := by decide +kernel
theorem dX0_copyFrom_37 : decode cX0_copyFrom 37 = .ok (.aload_n 1, 1) := by decide +kernel
theorem dX0_copyFrom_38 : decode cX0_copyFrom 38 = .ok (.getfield 18, 3) := by decide +kernel
theorem dX0_copyFrom_41 : decode cX0_copyFrom 41 = .ok (.iload_n 2, 1) := by decide +kernel
theorem dX0_copyFrom_42 : decode cX0_copyFrom 42 = .ok (.iaload, 1) := by decide +kernel
theorem dX0_copyFrom_43 : decode cX0_copyFrom 43 = .ok (.iastore, 1) := by decide +kernel
theorem dX0_copyFrom_44 : decode cX0_copyFrom 44 = .ok (.aload_n 0, 1) := by decide +kernel
theorem dX0_copyFrom_45 : decode cX0_copyFrom 45 = .ok (.getfield 21, 3) := by decide +kernel
theorem dX0_copyFrom_48 : decode cX0_copyFrom 48 = .ok (.iload_n 2, 1) := by decide +kernel
theorem dX0_copyFrom_49 : decode cX0_copyFrom 49 = .ok (.aload_n 1, 1) := by decide +kernel
theorem dX0_copyFrom_50 : decode cX0_copyFrom 50 = .ok (.getfield 21, 3) := by decide +kernel
theorem dX0_copyFrom_53 : decode cX0_copyFrom 53 = .ok (.iload_n 2, 1) := by decide +kernel
theorem dX0_copyFrom_54 : decode cX0_copyFrom 54 = .ok (.iaload, 1) := by decide +kernel
theorem dX0_copyFrom_55 : decode cX0_copyFrom 55 = .ok (.iastore, 1) := by decide +kernel
theorem dX0_copyFrom_56 : decode cX0_copyFrom 56 = .ok (.aload_n 0, 1) := by decide +kernel
theorem dX0_copyFrom_57 : decode cX0_copyFrom 57 = .ok (.getfield 24, 3) := by decide +kernel
theorem dX0_copyFrom_60 : decode cX0_copyFrom 60 = .ok (.iload_n 2, 1) := by decide +kernel
theorem dX0_copyFrom_61 : decode cX0_copyFrom 61 = .ok (.aload_n 1, 1) := by decide +kernel
theorem dX0_copyFrom_62 : decode cX0_copyFrom 62 = .ok (.getfield 24, 3) := by decide +kernel
theorem dX0_copyFrom_65 : decode cX0_copyFrom 65 = .ok (.iload_n 2, 1) := by decide +kernel
theorem dX0_copyFrom_66 : decode cX0_copyFrom 66 = .ok (.iaload, 1) := by decide +kernel
theorem dX0_copyFrom_67 : decode cX0_copyFrom 67 = .ok (.iastore, 1) := by decide +kernel
theorem dX0_copyFrom_68 : decode cX0_copyFrom 68 = .ok (.aload_n 0, 1) := by decide +kernel
theorem dX0_copyFrom_69 : decode cX0_copyFrom 69 = .ok (.getfield 27, 3) := by decide +kernel
theorem dX0_copyFrom_72 : decode cX0_copyFrom 72 = .ok (.iload_n 2, 1) := by decide +kernel
theorem dX0_copyFrom_73 : decode cX0_copyFrom 73 = .ok (.aload_n 1, 1) := by decide +kernel
theorem dX0_copyFrom_74 : decode cX0_copyFrom 74 = .ok (.getfield 27, 3) := by decide +kernel
theorem dX0_copyFrom_77 : decode cX0_copyFrom 77 = .ok (.iload_n 2, 1) := by decide +kernel
theorem dX0_copyFrom_78 : decode cX0_copyFrom 78 = .ok (.iaload, 1) := by decide +kernel
theorem dX0_copyFrom_79 : decode cX0_copyFrom 79 = .ok (.iastore, 1) := by decide +kernel
theorem dX0_copyFrom_80 : decode cX0_copyFrom 80 = .ok (.iinc 2 1, 3) := by decide +kernel
theorem dX0_copyFrom_83 : decode cX0_copyFrom 83 = .ok (.goto (-81), 3) := by decide +kernel
theorem dX0_copyFrom_86 : decode cX0_copyFrom 86 = .ok (.aload_n 0, 1) := by decide +kernel
theorem dX0_copyFrom_87 : decode cX0_copyFrom 87 = .ok (.aload_n 1, 1) := by decide +kernel
theorem dX0_copyFrom_88 : decode cX0_copyFrom 88 = .ok (.getfield 30, 3) := by decide +kernel
theorem dX0_copyFrom_91 : decode cX0_copyFrom 91 = .ok (.putfield 30, 3) := by decide +kernel
theorem dX0_copyFrom_94 : decode cX0_copyFrom 94 = .ok (.return_, 1) := by decide +kernel
theorem dX0_shown_0 : decode cX0_shown 0 = .ok (.iconst 5, 1) := by decide +kernel
theorem dX0_shown_1 : decode cX0_shown 1 = .ok (.aload_n 0, 1) := by decide +kernel
theorem dX0_shown_2 : decode cX0_shown 2 = .ok (.getfield 9, 3) := by decide +kernel
theorem dX0_shown_5 : decode cX0_shown 5 = .ok (.iload_n 1, 1) := by decide +kernel
theorem dX0_shown_6 : decode cX0_shown 6 = .ok (.iaload, 1) := by decide +kernel
theorem dX0_shown_7 : decode cX0_shown 7 = .ok (.imul, 1) := by decide +kernel
theorem dX0_shown_8 : decode cX0_shown 8 = .ok (.aload_n 0, 1) := by decide +kernel
theorem dX0_shown_9 : decode cX0_shown 9 = .ok (.getfield 15, 3) := by decide +kernel
theorem dX0_shown_12 : decode cX0_shown 12 = .ok (.iload_n 1, 1) := by decide +kernel
theorem dX0_shown_13 : decode cX0_shown 13 = .ok (.iaload, 1) := by decide +kernel
theorem dX0_shown_14 : decode cX0_shown 14 = .ok (.iadd, 1) := by decide +kernel
theorem dX0_shown_15 : decode cX0_shown 15 = .ok (.ireturn, 1) := by decide +kernel
theorem dX0_movesBy_0 : decode cX0_movesBy 0 = .ok (.iload_n 3, 1) := by decide +kernel
theorem dX0_movesBy_1 : decode cX0_movesBy 1 = .ok (.ifCond .lt 8, 3) := by decide +kernel
theorem dX0_movesBy_4 : decode cX0_movesBy 4 = .ok (.iload_n 3, 1) := by decide +kernel
theorem dX0_movesBy_5 : decode cX0_movesBy 5 = .ok (.iconst 5, 1) := by decide +kernel
theorem dX0_movesBy_6 : decode cX0_movesBy 6 = .ok (.if_icmp .le 5, 3) := by decide +kernel
theorem dX0_movesBy_9 : decode cX0_movesBy 9 = .ok (.iconst (-1), 1) := by decide +kernel
theorem dX0_movesBy_10 : decode cX0_movesBy 10 = .ok (.ireturn, 1) := by decide +kernel
theorem dX0_movesBy_11 : decode cX0_movesBy 11 = .ok (.iload_n 2, 1) := by decide +kernel
theorem dX0_movesBy_12 : decode cX0_movesBy 12 = .ok (.aload_n 0, 1) := by decide +kernel
theorem dX0_movesBy_13 : decode cX0_movesBy 13 = .ok (.getfield 9, 3) := by decide +kernel
theorem dX0_movesBy_16 : decode cX0_movesBy 16 = .ok (.iload_n 1, 1) := by decide +kernel
theorem dX0_movesBy_17 : decode cX0_movesBy 17 = .ok (.iaload, 1) := by decide +kernel
theorem dX0_movesBy_18 : decode cX0_movesBy 18 = .ok (.isub, 1) := by decide +kernel
theorem dX0_movesBy_19 : decode cX0_movesBy 19 = .ok (.invokestatic 34, 3) := by decide +kernel
theorem dX0_movesBy_22 : decode cX0_movesBy 22 = .ok (.istore 4, 2) := by decide +kernel
theorem dX0_movesBy_24 : decode cX0_movesBy 24 = .ok (.iload_n 3, 1) := by decide +kernel
theorem dX0_movesBy_25 : decode cX0_movesBy 25 = .ok (.aload_n 0, 1) := by decide +kernel
theorem dX0_movesBy_26 : decode cX0_movesBy 26 = .ok (.getfield 15, 3) := by decide +kernel
theorem dX0_movesBy_29 : decode cX0_movesBy 29 = .ok (.iload_n 1, 1) := by decide +kernel
theorem dX0_movesBy_30 : decode cX0_movesBy 30 = .ok (.iaload, 1) := by decide +kernel
theorem dX0_movesBy_31 : decode cX0_movesBy 31 = .ok (.isub, 1) := by decide +kernel
theorem dX0_movesBy_32 : decode cX0_movesBy 32 = .ok (.invokestatic 34, 3) := by decide +kernel
theorem dX0_movesBy_35 : decode cX0_movesBy 35 = .ok (.istore 5, 2) := by decide +kernel
theorem dX0_movesBy_37 : decode cX0_movesBy 37 = .ok (.iload 4, 2) := by decide +kernel
theorem dX0_movesBy_39 : decode cX0_movesBy 39 = .ok (.ifCond .le 16, 3) := by decide +kernel
theorem dX0_movesBy_42 : decode cX0_movesBy 42 = .ok (.aload_n 0, 1) := by decide +kernel
theorem dX0_movesBy_43 : decode cX0_movesBy 43 = .ok (.getfield 18, 3) := by decide +kernel
theorem dX0_movesBy_46 : decode cX0_movesBy 46 = .ok (.iload_n 1, 1) := by decide +kernel
theorem dX0_movesBy_47 : decode cX0_movesBy 47 = .ok (.iaload, 1) := by decide +kernel
theorem dX0_movesBy_48 : decode cX0_movesBy 48 = .ok (.iconst 1, 1) := by decide +kernel
theorem dX0_movesBy_49 : decode cX0_movesBy 49 = .ok (.iand, 1) := by decide +kernel
theorem dX0_movesBy_50 : decode cX0_movesBy 50 = .ok (.ifCond .eq 5, 3) := by decide +kernel
theorem dX0_movesBy_53 : decode cX0_movesBy 53 = .ok (.iconst (-1), 1) := by decide +kernel
theorem dX0_movesBy_54 : decode cX0_movesBy 54 = .ok (.ireturn, 1) := by decide +kernel
theorem dX0_movesBy_55 : decode cX0_movesBy 55 = .ok (.iload 5, 2) := by decide +kernel
theorem dX0_movesBy_57 : decode cX0_movesBy 57 = .ok (.ifCond .le 16, 3) := by decide +kernel
theorem dX0_movesBy_60 : decode cX0_movesBy 60 = .ok (.aload_n 0, 1) := by decide +kernel
theorem dX0_movesBy_61 : decode cX0_movesBy 61 = .ok (.getfield 18, 3) := by decide +kernel
theorem dX0_movesBy_64 : decode cX0_movesBy 64 = .ok (.iload_n 1, 1) := by decide +kernel
theorem dX0_movesBy_65 : decode cX0_movesBy 65 = .ok (.iaload, 1) := by decide +kernel
theorem dX0_movesBy_66 : decode cX0_movesBy 66 = .ok (.iconst 2, 1) := by decide +kernel
theorem dX0_movesBy_67 : decode cX0_movesBy 67 = .ok (.iand, 1) := by decide +kernel
theorem dX0_movesBy_68 : decode cX0_movesBy 68 = .ok (.ifCond .eq 5, 3) := by decide +kernel
theorem dX0_movesBy_71 : decode cX0_movesBy 71 = .ok (.iconst (-1), 1) := by decide +kernel
theorem dX0_movesBy_72 : decode cX0_movesBy 72 = .ok (.ireturn, 1) := by decide +kernel
theorem dX0_movesBy_73 : decode cX0_movesBy 73 = .ok (.iload 4, 2) := by decide +kernel
theorem dX0_movesBy_75 : decode cX0_movesBy 75 = .ok (.iload 5, 2) := by decide +kernel
theorem dX0_movesBy_77 : decode cX0_movesBy 77 = .ok (.iadd, 1) := by decide +kernel
theorem dX0_movesBy_78 : decode cX0_movesBy 78 = .ok (.ireturn, 1) := by decide +kernel
theorem dX0_place_0 : decode cX0_place 0 = .ok (.aload_n 0, 1) := by decide +kernel
theorem dX0_place_1 : decode cX0_place 1 = .ok (.getfield 9, 3) := by decide +kernel
theorem dX0_place_4 : decode cX0_place 4 = .ok (.iload_n 1, 1) := by decide +kernel
theorem dX0_place_5 : decode cX0_place 5 = .ok (.iload_n 2, 1) := by decide +kernel
theorem dX0_place_6 : decode cX0_place 6 = .ok (.iastore, 1) := by decide +kernel
theorem dX0_place_7 : decode cX0_place 7 = .ok (.aload_n 0, 1) := by decide +kernel
theorem dX0_place_8 : decode cX0_place 8 = .ok (.getfield 15, 3) := by decide +kernel
theorem dX0_place_11 : decode cX0_place 11 = .ok (.iload_n 1, 1) := by decide +kernel
theorem dX0_place_12 : decode cX0_place 12 = .ok (.iload_n 3, 1) := by decide +kernel
theorem dX0_place_13 : decode cX0_place 13 = .ok (.iastore, 1) := by decide +kernel
theorem dX0_place_14 : decode cX0_place 14 = .ok (.aload_n 0, 1) := by decide +kernel
theorem dX0_place_15 : decode cX0_place 15 = .ok (.getfield 24, 3) := by decide +kernel
theorem dX0_place_18 : decode cX0_place 18 = .ok (.iload_n 1, 1) := by decide +kernel
theorem dX0_place_19 : decode cX0_place 19 = .ok (.dup2, 1) := by decide +kernel
theorem dX0_place_20 : decode cX0_place 20 = .ok (.iaload, 1) := by decide +kernel
theorem dX0_place_21 : decode cX0_place 21 = .ok (.iload 4, 2) := by decide +kernel
theorem dX0_place_23 : decode cX0_place 23 = .ok (.iadd, 1) := by decide +kernel
theorem dX0_place_24 : decode cX0_place 24 = .ok (.iastore, 1) := by decide +kernel
theorem dX0_place_25 : decode cX0_place 25 = .ok (.return_, 1) := by decide +kernel
set_option maxRecDepth 20000 in
theorem ggX0_turn_X0_movesBy : GoodIn wsX0_turn wsX0_movesBy := goodIn_r _ [5, 6, 7, 8, 9, 10, 11, 12, 18, 19, 20, 21, 22, 23, 24] (by decide +kernel) (by decide +kernel)
set_option maxRecDepth 20000 in
theorem gX0_turn_X0_movesBy : GoodIn wsX0_turn (wsV RX0 40 RX0 yX0_movesBy wsX0_movesBy) := goodIn_app (goodIn_of _ (by decide +kernel)) ggX0_turn_X0_movesBy
set_option maxRecDepth 20000 in
theorem ggX0_turn_X0_place : GoodIn wsX0_turn wsX0_place := goodIn_r _ [16, 6, 11, 17, 18, 19, 20, 21, 22, 23, 24] (by decide +kernel) (by decide +kernel)
set_option maxRecDepth 20000 in
theorem gX0_turn_X0_place : GoodIn wsX0_turn (wsV RX0 44 RX0 yX0_place wsX0_place) := goodIn_app (goodIn_of _ (by decide +kernel)) ggX0_turn_X0_place
theorem dX0_turn_0 : decode cX0_turn 0 = .ok (.iconst (-1), 1) := by decide +kernel
theorem dX0_turn_1 : decode cX0_turn 1 = .ok (.istore 4, 2) := by decide +kernel
theorem dX0_turn_3 : decode cX0_turn 3 = .ok (.iconst 0, 1) := by decide +kernel
theorem dX0_turn_4 : decode cX0_turn 4 = .ok (.istore 5, 2) := by decide +kernel
theorem dX0_turn_6 : decode cX0_turn 6 = .ok (.iconst 2, 1) := by decide +kernel
theorem dX0_turn_7 : decode cX0_turn 7 = .ok (.istore 6, 2) := by decide +kernel
theorem dX0_turn_9 : decode cX0_turn 9 = .ok (.iload 6, 2) := by decide +kernel
theorem dX0_turn_11 : decode cX0_turn 11 = .ok (.ifCond .lt 51, 3) := by decide +kernel
theorem dX0_turn_14 : decode cX0_turn 14 = .ok (.aload_n 0, 1) := by decide +kernel
theorem dX0_turn_15 : decode cX0_turn 15 = .ok (.iload_n 1, 1) := by decide +kernel
theorem dX0_turn_16 : decode cX0_turn 16 = .ok (.iload 6, 2) := by decide +kernel
theorem dX0_turn_18 : decode cX0_turn 18 = .ok (.iload_n 2, 1) := by decide +kernel
theorem dX0_turn_19 : decode cX0_turn 19 = .ok (.iconst 5, 1) := by decide +kernel
theorem dX0_turn_20 : decode cX0_turn 20 = .ok (.iload 6, 2) := by decide +kernel
theorem dX0_turn_22 : decode cX0_turn 22 = .ok (.imul, 1) := by decide +kernel
theorem dX0_turn_23 : decode cX0_turn 23 = .ok (.isub, 1) := by decide +kernel
theorem dX0_turn_24 : decode cX0_turn 24 = .ok (.invokevirtual 40, 3) := by decide +kernel
theorem dX0_turn_27 : decode cX0_turn 27 = .ok (.istore 7, 2) := by decide +kernel
theorem dX0_turn_29 : decode cX0_turn 29 = .ok (.iload 7, 2) := by decide +kernel
theorem dX0_turn_31 : decode cX0_turn 31 = .ok (.iconst (-1), 1) := by decide +kernel
theorem dX0_turn_32 : decode cX0_turn 32 = .ok (.if_icmp .eq 24, 3) := by decide +kernel
theorem dX0_turn_35 : decode cX0_turn 35 = .ok (.iload 4, 2) := by decide +kernel
theorem dX0_turn_37 : decode cX0_turn 37 = .ok (.iconst (-1), 1) := by decide +kernel
theorem dX0_turn_38 : decode cX0_turn 38 = .ok (.if_icmp .eq 10, 3) := by decide +kernel
theorem dX0_turn_41 : decode cX0_turn 41 = .ok (.iload 7, 2) := by decide +kernel
theorem dX0_turn_43 : decode cX0_turn 43 = .ok (.iload 4, 2) := by decide +kernel
theorem dX0_turn_45 : decode cX0_turn 45 = .ok (.if_icmp .ge 11, 3) := by decide +kernel
theorem dX0_turn_48 : decode cX0_turn 48 = .ok (.iload 7, 2) := by decide +kernel
theorem dX0_turn_50 : decode cX0_turn 50 = .ok (.istore 4, 2) := by decide +kernel
theorem dX0_turn_52 : decode cX0_turn 52 = .ok (.iload 6, 2) := by decide +kernel
theorem dX0_turn_54 : decode cX0_turn 54 = .ok (.istore 5, 2) := by decide +kernel
theorem dX0_turn_56 : decode cX0_turn 56 = .ok (.iinc 6 (-1), 3) := by decide +kernel
theorem dX0_turn_59 : decode cX0_turn 59 = .ok (.goto (-50), 3) := by decide +kernel
theorem dX0_turn_62 : decode cX0_turn 62 = .ok (.iload_n 3, 1) := by decide +kernel
theorem dX0_turn_63 : decode cX0_turn 63 = .ok (.ifCond .eq 24, 3) := by decide +kernel
theorem dX0_turn_66 : decode cX0_turn 66 = .ok (.iload 4, 2) := by decide +kernel
theorem dX0_turn_68 : decode cX0_turn 68 = .ok (.iconst (-1), 1) := by decide +kernel
theorem dX0_turn_69 : decode cX0_turn 69 = .ok (.if_icmp .eq 18, 3) := by decide +kernel
theorem dX0_turn_72 : decode cX0_turn 72 = .ok (.aload_n 0, 1) := by decide +kernel
theorem dX0_turn_73 : decode cX0_turn 73 = .ok (.iload_n 1, 1) := by decide +kernel
theorem dX0_turn_74 : decode cX0_turn 74 = .ok (.iload 5, 2) := by decide +kernel
theorem dX0_turn_76 : decode cX0_turn 76 = .ok (.iload_n 2, 1) := by decide +kernel
theorem dX0_turn_77 : decode cX0_turn 77 = .ok (.iconst 5, 1) := by decide +kernel
theorem dX0_turn_78 : decode cX0_turn 78 = .ok (.iload 5, 2) := by decide +kernel
theorem dX0_turn_80 : decode cX0_turn 80 = .ok (.imul, 1) := by decide +kernel
theorem dX0_turn_81 : decode cX0_turn 81 = .ok (.isub, 1) := by decide +kernel
theorem dX0_turn_82 : decode cX0_turn 82 = .ok (.iload 4, 2) := by decide +kernel
theorem dX0_turn_84 : decode cX0_turn 84 = .ok (.invokevirtual 44, 3) := by decide +kernel
theorem dX0_turn_87 : decode cX0_turn 87 = .ok (.iload 4, 2) := by decide +kernel
theorem dX0_turn_89 : decode cX0_turn 89 = .ok (.ireturn, 1) := by decide +kernel
set_option maxRecDepth 20000 in
theorem ggX0_change_X0_shown : GoodIn wsX0_change wsX0_shown := goodIn_r _ [5, 6, 7, 37, 38, 39, 40, 41, 42, 43] (by decide +kernel) (by decide +kernel)
set_option maxRecDepth 20000 in
theorem gX0_change_X0_shown : GoodIn wsX0_change (wsV RX0 48 RX0 yX0_shown wsX0_shown) := goodIn_app (goodIn_of _ (by decide +kernel)) ggX0_change_X0_shown
set_option maxRecDepth 20000 in
theorem ggX0_change_X0_turn : GoodIn wsX0_change wsX0_turn := goodIn_r _ [11, 12, 13, 14, 4, 15, 6, 16, 17, 18, 19, 7, 20, 21, 22, 23, 24, 25, 37, 38, 39, 40, 41, 42, 43] (by decide +kernel) (by decide +kernel)
set_option maxRecDepth 20000 in
theorem gX0_change_X0_turn : GoodIn wsX0_change (wsV RX0 51 RX0 yX0_turn wsX0_turn) := goodIn_app (goodIn_of _ (by decide +kernel)) ggX0_change_X0_turn
set_option maxRecDepth 20000 in
theorem ggX0_change_X0_turnAndCarry : GoodIn wsX0_change wsX0_turnAndCarry := goodIn_r _ [29, 8, 9, 10, 4, 11, 12, 13, 14, 15, 6, 16, 17, 18, 19, 7, 20, 21, 22, 23, 24, 25, 1, 2, 3, 5, 30, 31, 32, 33, 34, 35, 36, 37, 38, 39, 40, 41, 42, 43] (by decide +kernel) (by decide +kernel)
set_option maxRecDepth 20000 in
theorem gX0_change_X0_turnAndCarry : GoodIn wsX0_change (wsV RX0 55 RX0 yX0_turnAndCarry wsX0_turnAndCarry) := goodIn_app (goodIn_of _ (by decide +kernel)) ggX0_change_X0_turnAndCarry
theorem dX0_change_0 : decode cX0_change 0 = .ok (.iload_n 2, 1) := by decide +kernel
theorem dX0_change_1 : decode cX0_change 1 = .ok (.ifCond .ge 7, 3) := by decide +kernel
theorem dX0_change_4 : decode cX0_change 4 = .ok (.iconst (-1), 1) := by decide +kernel
theorem dX0_change_5 : decode cX0_change 5 = .ok (.goto 4, 3) := by decide +kernel
theorem dX0_change_8 : decode cX0_change 8 = .ok (.iconst 1, 1) := by decide +kernel
theorem dX0_change_9 : decode cX0_change 9 = .ok (.istore 4, 2) := by decide +kernel
theorem dX0_change_11 : decode cX0_change 11 = .ok (.aload_n 0, 1) := by decide +kernel
theorem dX0_change_12 : decode cX0_change 12 = .ok (.iload_n 1, 1) := by decide +kernel
theorem dX0_change_13 : decode cX0_change 13 = .ok (.aload_n 0, 1) := by decide +kernel
theorem dX0_change_14 : decode cX0_change 14 = .ok (.iload_n 1, 1) := by decide +kernel
theorem dX0_change_15 : decode cX0_change 15 = .ok (.invokevirtual 48, 3) := by decide +kernel
theorem dX0_change_18 : decode cX0_change 18 = .ok (.iload_n 2, 1) := by decide +kernel
theorem dX0_change_19 : decode cX0_change 19 = .ok (.iadd, 1) := by decide +kernel
theorem dX0_change_20 : decode cX0_change 20 = .ok (.iload_n 3, 1) := by decide +kernel
theorem dX0_change_21 : decode cX0_change 21 = .ok (.invokevirtual 51, 3) := by decide +kernel
theorem dX0_change_24 : decode cX0_change 24 = .ok (.istore 5, 2) := by decide +kernel
theorem dX0_change_26 : decode cX0_change 26 = .ok (.iload 5, 2) := by decide +kernel
theorem dX0_change_28 : decode cX0_change 28 = .ok (.iconst (-1), 1) := by decide +kernel
theorem dX0_change_29 : decode cX0_change 29 = .ok (.if_icmp .eq 6, 3) := by decide +kernel
theorem dX0_change_32 : decode cX0_change 32 = .ok (.iload 5, 2) := by decide +kernel
theorem dX0_change_34 : decode cX0_change 34 = .ok (.ireturn, 1) := by decide +kernel
theorem dX0_change_35 : decode cX0_change 35 = .ok (.aload_n 0, 1) := by decide +kernel
theorem dX0_change_36 : decode cX0_change 36 = .ok (.iload_n 1, 1) := by decide +kernel
theorem dX0_change_37 : decode cX0_change 37 = .ok (.aload_n 0, 1) := by decide +kernel
theorem dX0_change_38 : decode cX0_change 38 = .ok (.iload_n 1, 1) := by decide +kernel
theorem dX0_change_39 : decode cX0_change 39 = .ok (.invokevirtual 48, 3) := by decide +kernel
theorem dX0_change_42 : decode cX0_change 42 = .ok (.iload_n 2, 1) := by decide +kernel
theorem dX0_change_43 : decode cX0_change 43 = .ok (.iadd, 1) := by decide +kernel
theorem dX0_change_44 : decode cX0_change 44 = .ok (.bipush 10, 2) := by decide +kernel
theorem dX0_change_46 : decode cX0_change 46 = .ok (.iload 4, 2) := by decide +kernel
theorem dX0_change_48 : decode cX0_change 48 = .ok (.imul, 1) := by decide +kernel
theorem dX0_change_49 : decode cX0_change 49 = .ok (.isub, 1) := by decide +kernel
theorem dX0_change_50 : decode cX0_change 50 = .ok (.iload 4, 2) := by decide +kernel
theorem dX0_change_52 : decode cX0_change 52 = .ok (.iload_n 3, 1) := by decide +kernel
theorem dX0_change_53 : decode cX0_change 53 = .ok (.invokevirtual 55, 3) := by decide +kernel
theorem dX0_change_56 : decode cX0_change 56 = .ok (.ireturn, 1) := by decide +kernel
set_option maxRecDepth 20000 in
theorem ggX0_turnAndCarry_X0_turn : GoodIn wsX0_turnAndCarry wsX0_turn := goodIn_r _ [5, 6, 7, 8, 4, 9, 10, 11, 12, 13, 14, 15, 16, 17, 18, 19, 20, 21, 33, 34, 35, 36, 37, 38, 39] (by decide +kernel) (by decide +kernel)
set_option maxRecDepth 20000 in
theorem gX0_turnAndCarry_X0_turn : GoodIn wsX0_turnAndCarry (wsV RX0 51 RX0 yX0_turn wsX0_turn) := goodIn_app (goodIn_of _ (by decide +kernel)) ggX0_turnAndCarry_X0_turn
set_option maxRecDepth 20000 in
theorem ggX0_turnAndCarry_X0_shown : GoodIn wsX0_turnAndCarry wsX0_shown := goodIn_r _ [25, 10, 15, 33, 34, 35, 36, 37, 38, 39] (by decide +kernel) (by decide +kernel)
set_option maxRecDepth 20000 in
theorem gX0_turnAndCarry_X0_shown : GoodIn wsX0_turnAndCarry (wsV RX0 48 RX0 yX0_shown wsX0_shown) := goodIn_app (goodIn_of _ (by decide +kernel)) ggX0_turnAndCarry_X0_shown
set_option maxRecDepth 20000 in
theorem ggX0_turnAndCarry_X0_borrow : GoodIn wsX0_turnAndCarry wsX0_borrow := goodIn_r _ [29, 30, 31, 32, 33, 34, 35, 36, 37, 38, 39] (by decide +kernel) (by decide +kernel)
set_option maxRecDepth 20000 in
theorem gX0_turnAndCarry_X0_borrow : GoodIn wsX0_turnAndCarry (wsV RX0 59 RX0 yX0_borrow wsX0_borrow) := goodIn_app (goodIn_of _ (by decide +kernel)) ggX0_turnAndCarry_X0_borrow
theorem dX0_turnAndCarry_0 : decode cX0_turnAndCarry 0 = .ok (.aload_n 0, 1) := by decide +kernel
theorem dX0_turnAndCarry_1 : decode cX0_turnAndCarry 1 = .ok (.iload_n 1, 1) := by decide +kernel
theorem dX0_turnAndCarry_2 : decode cX0_turnAndCarry 2 = .ok (.iload_n 2, 1) := by decide +kernel
theorem dX0_turnAndCarry_3 : decode cX0_turnAndCarry 3 = .ok (.iload 4, 2) := by decide +kernel
theorem dX0_turnAndCarry_5 : decode cX0_turnAndCarry 5 = .ok (.invokevirtual 51, 3) := by decide +kernel
theorem dX0_turnAndCarry_8 : decode cX0_turnAndCarry 8 = .ok (.istore 5, 2) := by decide +kernel
theorem dX0_turnAndCarry_10 : decode cX0_turnAndCarry 10 = .ok (.iload 5, 2) := by decide +kernel
theorem dX0_turnAndCarry_12 : decode cX0_turnAndCarry 12 = .ok (.iconst (-1), 1) := by decide +kernel
theorem dX0_turnAndCarry_13 : decode cX0_turnAndCarry 13 = .ok (.if_icmp .ne 5, 3) := by decide +kernel
theorem dX0_turnAndCarry_16 : decode cX0_turnAndCarry 16 = .ok (.iconst (-1), 1) := by decide +kernel
theorem dX0_turnAndCarry_17 : decode cX0_turnAndCarry 17 = .ok (.ireturn, 1) := by decide +kernel
theorem dX0_turnAndCarry_18 : decode cX0_turnAndCarry 18 = .ok (.iload_n 1, 1) := by decide +kernel
theorem dX0_turnAndCarry_19 : decode cX0_turnAndCarry 19 = .ok (.iconst 1, 1) := by decide +kernel
theorem dX0_turnAndCarry_20 : decode cX0_turnAndCarry 20 = .ok (.iadd, 1) := by decide +kernel
theorem dX0_turnAndCarry_21 : decode cX0_turnAndCarry 21 = .ok (.istore 6, 2) := by decide +kernel
theorem dX0_turnAndCarry_23 : decode cX0_turnAndCarry 23 = .ok (.iload 6, 2) := by decide +kernel
theorem dX0_turnAndCarry_25 : decode cX0_turnAndCarry 25 = .ok (.bipush 9, 2) := by decide +kernel
theorem dX0_turnAndCarry_27 : decode cX0_turnAndCarry 27 = .ok (.if_icmp .ge 92, 3) := by decide +kernel
theorem dX0_turnAndCarry_30 : decode cX0_turnAndCarry 30 = .ok (.aload_n 0, 1) := by decide +kernel
theorem dX0_turnAndCarry_31 : decode cX0_turnAndCarry 31 = .ok (.iload 6, 2) := by decide +kernel
theorem dX0_turnAndCarry_33 : decode cX0_turnAndCarry 33 = .ok (.aload_n 0, 1) := by decide +kernel
theorem dX0_turnAndCarry_34 : decode cX0_turnAndCarry 34 = .ok (.iload 6, 2) := by decide +kernel
theorem dX0_turnAndCarry_36 : decode cX0_turnAndCarry 36 = .ok (.invokevirtual 48, 3) := by decide +kernel
theorem dX0_turnAndCarry_39 : decode cX0_turnAndCarry 39 = .ok (.iload_n 3, 1) := by decide +kernel
theorem dX0_turnAndCarry_40 : decode cX0_turnAndCarry 40 = .ok (.iadd, 1) := by decide +kernel
theorem dX0_turnAndCarry_41 : decode cX0_turnAndCarry 41 = .ok (.iload 4, 2) := by decide +kernel
theorem dX0_turnAndCarry_43 : decode cX0_turnAndCarry 43 = .ok (.invokevirtual 51, 3) := by decide +kernel
theorem dX0_turnAndCarry_46 : decode cX0_turnAndCarry 46 = .ok (.istore 7, 2) := by decide +kernel
theorem dX0_turnAndCarry_48 : decode cX0_turnAndCarry 48 = .ok (.iload 7, 2) := by decide +kernel
theorem dX0_turnAndCarry_50 : decode cX0_turnAndCarry 50 = .ok (.iconst (-1), 1) := by decide +kernel
theorem dX0_turnAndCarry_51 : decode cX0_turnAndCarry 51 = .ok (.if_icmp .eq 9, 3) := by decide +kernel
theorem dX0_turnAndCarry_54 : decode cX0_turnAndCarry 54 = .ok (.iload 5, 2) := by decide +kernel
theorem dX0_turnAndCarry_56 : decode cX0_turnAndCarry 56 = .ok (.iload 7, 2) := by decide +kernel
theorem dX0_turnAndCarry_58 : decode cX0_turnAndCarry 58 = .ok (.iadd, 1) := by decide +kernel
theorem dX0_turnAndCarry_59 : decode cX0_turnAndCarry 59 = .ok (.ireturn, 1) := by decide +kernel
theorem dX0_turnAndCarry_60 : decode cX0_turnAndCarry 60 = .ok (.aload_n 0, 1) := by decide +kernel
theorem dX0_turnAndCarry_61 : decode cX0_turnAndCarry 61 = .ok (.iload 6, 2) := by decide +kernel
theorem dX0_turnAndCarry_63 : decode cX0_turnAndCarry 63 = .ok (.aload_n 0, 1) := by decide +kernel
theorem dX0_turnAndCarry_64 : decode cX0_turnAndCarry 64 = .ok (.iload 6, 2) := by decide +kernel
theorem dX0_turnAndCarry_66 : decode cX0_turnAndCarry 66 = .ok (.invokevirtual 48, 3) := by decide +kernel
theorem dX0_turnAndCarry_69 : decode cX0_turnAndCarry 69 = .ok (.bipush 9, 2) := by decide +kernel
theorem dX0_turnAndCarry_71 : decode cX0_turnAndCarry 71 = .ok (.iload_n 3, 1) := by decide +kernel
theorem dX0_turnAndCarry_72 : decode cX0_turnAndCarry 72 = .ok (.imul, 1) := by decide +kernel
theorem dX0_turnAndCarry_73 : decode cX0_turnAndCarry 73 = .ok (.isub, 1) := by decide +kernel
theorem dX0_turnAndCarry_74 : decode cX0_turnAndCarry 74 = .ok (.iload 4, 2) := by decide +kernel
theorem dX0_turnAndCarry_76 : decode cX0_turnAndCarry 76 = .ok (.invokevirtual 51, 3) := by decide +kernel
theorem dX0_turnAndCarry_79 : decode cX0_turnAndCarry 79 = .ok (.istore 7, 2) := by decide +kernel
theorem dX0_turnAndCarry_81 : decode cX0_turnAndCarry 81 = .ok (.iload 7, 2) := by decide +kernel
theorem dX0_turnAndCarry_83 : decode cX0_turnAndCarry 83 = .ok (.iconst (-1), 1) := by decide +kernel
theorem dX0_turnAndCarry_84 : decode cX0_turnAndCarry 84 = .ok (.if_icmp .ne 22, 3) := by decide +kernel
theorem dX0_turnAndCarry_87 : decode cX0_turnAndCarry 87 = .ok (.aload_n 0, 1) := by decide +kernel
theorem dX0_turnAndCarry_88 : decode cX0_turnAndCarry 88 = .ok (.iload 6, 2) := by decide +kernel
theorem dX0_turnAndCarry_90 : decode cX0_turnAndCarry 90 = .ok (.iload_n 3, 1) := by decide +kernel
theorem dX0_turnAndCarry_91 : decode cX0_turnAndCarry 91 = .ok (.iload 4, 2) := by decide +kernel
theorem dX0_turnAndCarry_93 : decode cX0_turnAndCarry 93 = .ok (.invokevirtual 59, 3) := by decide +kernel
theorem dX0_turnAndCarry_96 : decode cX0_turnAndCarry 96 = .ok (.ifCond .eq 8, 3) := by decide +kernel
theorem dX0_turnAndCarry_99 : decode cX0_turnAndCarry 99 = .ok (.iload 5, 2) := by decide +kernel
theorem dX0_turnAndCarry_101 : decode cX0_turnAndCarry 101 = .ok (.goto 4, 3) := by decide +kernel
theorem dX0_turnAndCarry_104 : decode cX0_turnAndCarry 104 = .ok (.iconst (-1), 1) := by decide +kernel
theorem dX0_turnAndCarry_105 : decode cX0_turnAndCarry 105 = .ok (.ireturn, 1) := by decide +kernel
theorem dX0_turnAndCarry_106 : decode cX0_turnAndCarry 106 = .ok (.iload 5, 2) := by decide +kernel
theorem dX0_turnAndCarry_108 : decode cX0_turnAndCarry 108 = .ok (.iload 7, 2) := by decide +kernel
theorem dX0_turnAndCarry_110 : decode cX0_turnAndCarry 110 = .ok (.iadd, 1) := by decide +kernel
theorem dX0_turnAndCarry_111 : decode cX0_turnAndCarry 111 = .ok (.istore 5, 2) := by decide +kernel
theorem dX0_turnAndCarry_113 : decode cX0_turnAndCarry 113 = .ok (.iinc 6 1, 3) := by decide +kernel
theorem dX0_turnAndCarry_116 : decode cX0_turnAndCarry 116 = .ok (.goto (-93), 3) := by decide +kernel
theorem dX0_turnAndCarry_119 : decode cX0_turnAndCarry 119 = .ok (.iconst (-1), 1) := by decide +kernel
theorem dX0_turnAndCarry_120 : decode cX0_turnAndCarry 120 = .ok (.ireturn, 1) := by decide +kernel
theorem dX0_borrow_0 : decode cX0_borrow 0 = .ok (.aload_n 0, 1) := by decide +kernel
theorem dX0_borrow_1 : decode cX0_borrow 1 = .ok (.getfield 21, 3) := by decide +kernel
theorem dX0_borrow_4 : decode cX0_borrow 4 = .ok (.iload_n 1, 1) := by decide +kernel
theorem dX0_borrow_5 : decode cX0_borrow 5 = .ok (.iaload, 1) := by decide +kernel
theorem dX0_borrow_6 : decode cX0_borrow 6 = .ok (.iload_n 2, 1) := by decide +kernel
theorem dX0_borrow_7 : decode cX0_borrow 7 = .ok (.iadd, 1) := by decide +kernel
theorem dX0_borrow_8 : decode cX0_borrow 8 = .ok (.istore 4, 2) := by decide +kernel
theorem dX0_borrow_10 : decode cX0_borrow 10 = .ok (.iload 4, 2) := by decide +kernel
theorem dX0_borrow_12 : decode cX0_borrow 12 = .ok (.iload_n 2, 1) := by decide +kernel
theorem dX0_borrow_13 : decode cX0_borrow 13 = .ok (.imul, 1) := by decide +kernel
theorem dX0_borrow_14 : decode cX0_borrow 14 = .ok (.aload_n 0, 1) := by decide +kernel
theorem dX0_borrow_15 : decode cX0_borrow 15 = .ok (.getfield 30, 3) := by decide +kernel
theorem dX0_borrow_18 : decode cX0_borrow 18 = .ok (.if_icmp .le 5, 3) := by decide +kernel
theorem dX0_borrow_21 : decode cX0_borrow 21 = .ok (.iconst 0, 1) := by decide +kernel
theorem dX0_borrow_22 : decode cX0_borrow 22 = .ok (.ireturn, 1) := by decide +kernel
theorem dX0_borrow_23 : decode cX0_borrow 23 = .ok (.iload_n 3, 1) := by decide +kernel
theorem dX0_borrow_24 : decode cX0_borrow 24 = .ok (.ifCond .eq 21, 3) := by decide +kernel
theorem dX0_borrow_27 : decode cX0_borrow 27 = .ok (.aload_n 0, 1) := by decide +kernel
theorem dX0_borrow_28 : decode cX0_borrow 28 = .ok (.getfield 21, 3) := by decide +kernel
theorem dX0_borrow_31 : decode cX0_borrow 31 = .ok (.iload_n 1, 1) := by decide +kernel
theorem dX0_borrow_32 : decode cX0_borrow 32 = .ok (.iload 4, 2) := by decide +kernel
theorem dX0_borrow_34 : decode cX0_borrow 34 = .ok (.iastore, 1) := by decide +kernel
theorem dX0_borrow_35 : decode cX0_borrow 35 = .ok (.aload_n 0, 1) := by decide +kernel
theorem dX0_borrow_36 : decode cX0_borrow 36 = .ok (.getfield 27, 3) := by decide +kernel
theorem dX0_borrow_39 : decode cX0_borrow 39 = .ok (.iload_n 1, 1) := by decide +kernel
theorem dX0_borrow_40 : decode cX0_borrow 40 = .ok (.dup2, 1) := by decide +kernel
theorem dX0_borrow_41 : decode cX0_borrow 41 = .ok (.iaload, 1) := by decide +kernel
theorem dX0_borrow_42 : decode cX0_borrow 42 = .ok (.iconst 1, 1) := by decide +kernel
theorem dX0_borrow_43 : decode cX0_borrow 43 = .ok (.iadd, 1) := by decide +kernel
theorem dX0_borrow_44 : decode cX0_borrow 44 = .ok (.iastore, 1) := by decide +kernel
theorem dX0_borrow_45 : decode cX0_borrow 45 = .ok (.iconst 1, 1) := by decide +kernel
theorem dX0_borrow_46 : decode cX0_borrow 46 = .ok (.ireturn, 1) := by decide +kernel
set_option maxRecDepth 20000 in
theorem ggX0_payIfPossible_X0_change : GoodIn wsX0_payIfPossible wsX0_change := goodIn_r _ [6, 7, 8, 9, 5, 10, 11, 12, 13, 14, 15, 16, 17, 18, 19, 20, 21, 22, 23, 24, 25, 26, 27, 28, 29, 30, 31, 32, 33, 34, 35, 36, 37, 38, 1, 39, 40, 41, 42, 43, 44, 45, 46, 47] (by decide +kernel) (by decide +kernel)
set_option maxRecDepth 20000 in
theorem gX0_payIfPossible_X0_change : GoodIn wsX0_payIfPossible (wsV RX0 63 RX0 yX0_change wsX0_change) := goodIn_app (goodIn_of _ (by decide +kernel)) ggX0_payIfPossible_X0_change
theorem dX0_payIfPossible_0 : decode cX0_payIfPossible 0 = .ok (.aload_n 0, 1) := by decide +kernel
theorem dX0_payIfPossible_1 : decode cX0_payIfPossible 1 = .ok (.iload_n 1, 1) := by decide +kernel
theorem dX0_payIfPossible_2 : decode cX0_payIfPossible 2 = .ok (.aload_n 0, 1) := by decide +kernel
theorem dX0_payIfPossible_3 : decode cX0_payIfPossible 3 = .ok (.getfield 21, 3) := by decide +kernel
theorem dX0_payIfPossible_6 : decode cX0_payIfPossible 6 = .ok (.iload_n 1, 1) := by decide +kernel
theorem dX0_payIfPossible_7 : decode cX0_payIfPossible 7 = .ok (.iaload, 1) := by decide +kernel
theorem dX0_payIfPossible_8 : decode cX0_payIfPossible 8 = .ok (.iconst 0, 1) := by decide +kernel
theorem dX0_payIfPossible_9 : decode cX0_payIfPossible 9 = .ok (.invokevirtual 63, 3) := by decide +kernel
theorem dX0_payIfPossible_12 : decode cX0_payIfPossible 12 = .ok (.iconst (-1), 1) := by decide +kernel
theorem dX0_payIfPossible_13 : decode cX0_payIfPossible 13 = .ok (.if_icmp .ne 5, 3) := by decide +kernel
theorem dX0_payIfPossible_16 : decode cX0_payIfPossible 16 = .ok (.iconst 0, 1) := by decide +kernel
theorem dX0_payIfPossible_17 : decode cX0_payIfPossible 17 = .ok (.ireturn, 1) := by decide +kernel
theorem dX0_payIfPossible_18 : decode cX0_payIfPossible 18 = .ok (.aload_n 0, 1) := by decide +kernel
theorem dX0_payIfPossible_19 : decode cX0_payIfPossible 19 = .ok (.iload_n 1, 1) := by decide +kernel
theorem dX0_payIfPossible_20 : decode cX0_payIfPossible 20 = .ok (.aload_n 0, 1) := by decide +kernel
theorem dX0_payIfPossible_21 : decode cX0_payIfPossible 21 = .ok (.getfield 21, 3) := by decide +kernel
theorem dX0_payIfPossible_24 : decode cX0_payIfPossible 24 = .ok (.iload_n 1, 1) := by decide +kernel
theorem dX0_payIfPossible_25 : decode cX0_payIfPossible 25 = .ok (.iaload, 1) := by decide +kernel
theorem dX0_payIfPossible_26 : decode cX0_payIfPossible 26 = .ok (.iconst 1, 1) := by decide +kernel
theorem dX0_payIfPossible_27 : decode cX0_payIfPossible 27 = .ok (.invokevirtual 63, 3) := by decide +kernel
theorem dX0_payIfPossible_30 : decode cX0_payIfPossible 30 = .ok (.istore_n 2, 1) := by decide +kernel
theorem dX0_payIfPossible_31 : decode cX0_payIfPossible 31 = .ok (.aload_n 0, 1) := by decide +kernel
theorem dX0_payIfPossible_32 : decode cX0_payIfPossible 32 = .ok (.getfield 21, 3) := by decide +kernel
theorem dX0_payIfPossible_35 : decode cX0_payIfPossible 35 = .ok (.iload_n 1, 1) := by decide +kernel
theorem dX0_payIfPossible_36 : decode cX0_payIfPossible 36 = .ok (.iconst 0, 1) := by decide +kernel
theorem dX0_payIfPossible_37 : decode cX0_payIfPossible 37 = .ok (.iastore, 1) := by decide +kernel
theorem dX0_payIfPossible_38 : decode cX0_payIfPossible 38 = .ok (.iload_n 2, 1) := by decide +kernel
theorem dX0_payIfPossible_39 : decode cX0_payIfPossible 39 = .ok (.ireturn, 1) := by decide +kernel
set_option maxRecDepth 20000 in
theorem ggX0_orderIfPossible_X0_shown : GoodIn wsX0_orderIfPossible wsX0_shown := goodIn_r _ [5, 6, 7, 37, 38, 39, 40, 41, 42, 43] (by decide +kernel) (by decide +kernel)
set_option maxRecDepth 20000 in
theorem gX0_orderIfPossible_X0_shown : GoodIn wsX0_orderIfPossible (wsV RX0 48 RX0 yX0_shown wsX0_shown) := goodIn_app (goodIn_of _ (by decide +kernel)) ggX0_orderIfPossible_X0_shown
set_option maxRecDepth 20000 in
theorem ggX0_orderIfPossible_X0_turnAndCarry : GoodIn wsX0_orderIfPossible wsX0_turnAndCarry := goodIn_r _ [11, 12, 13, 14, 4, 15, 16, 17, 18, 19, 6, 20, 21, 22, 23, 7, 24, 25, 26, 27, 28, 29, 1, 2, 3, 5, 30, 31, 32, 33, 34, 35, 36, 37, 38, 39, 40, 41, 42, 43] (by decide +kernel) (by decide +kernel)
set_option maxRecDepth 20000 in
theorem gX0_orderIfPossible_X0_turnAndCarry : GoodIn wsX0_orderIfPossible (wsV RX0 55 RX0 yX0_turnAndCarry wsX0_turnAndCarry) := goodIn_app (goodIn_of _ (by decide +kernel)) ggX0_orderIfPossible_X0_turnAndCarry
theorem dX0_orderIfPossible_0 : decode cX0_orderIfPossible 0 = .ok (.aload_n 0, 1) := by decide +kernel
theorem dX0_orderIfPossible_1 : decode cX0_orderIfPossible 1 = .ok (.iload_n 1, 1) := by decide +kernel
theorem dX0_orderIfPossible_2 : decode cX0_orderIfPossible 2 = .ok (.invokevirtual 48, 3) := by decide +kernel
theorem dX0_orderIfPossible_5 : decode cX0_orderIfPossible 5 = .ok (.bipush 10, 2) := by decide +kernel
theorem dX0_orderIfPossible_7 : decode cX0_orderIfPossible 7 = .ok (.isub, 1) := by decide +kernel
theorem dX0_orderIfPossible_8 : decode cX0_orderIfPossible 8 = .ok (.istore_n 2, 1) := by decide +kernel
theorem dX0_orderIfPossible_9 : decode cX0_orderIfPossible 9 = .ok (.iload_n 2, 1) := by decide +kernel
theorem dX0_orderIfPossible_10 : decode cX0_orderIfPossible 10 = .ok (.ifCond .lt 15, 3) := by decide +kernel
theorem dX0_orderIfPossible_13 : decode cX0_orderIfPossible 13 = .ok (.aload_n 0, 1) := by decide +kernel
theorem dX0_orderIfPossible_14 : decode cX0_orderIfPossible 14 = .ok (.iload_n 1, 1) := by decide +kernel
theorem dX0_orderIfPossible_15 : decode cX0_orderIfPossible 15 = .ok (.iload_n 2, 1) := by decide +kernel
theorem dX0_orderIfPossible_16 : decode cX0_orderIfPossible 16 = .ok (.iconst 1, 1) := by decide +kernel
theorem dX0_orderIfPossible_17 : decode cX0_orderIfPossible 17 = .ok (.iconst 0, 1) := by decide +kernel
theorem dX0_orderIfPossible_18 : decode cX0_orderIfPossible 18 = .ok (.invokevirtual 55, 3) := by decide +kernel
theorem dX0_orderIfPossible_21 : decode cX0_orderIfPossible 21 = .ok (.iconst (-1), 1) := by decide +kernel
theorem dX0_orderIfPossible_22 : decode cX0_orderIfPossible 22 = .ok (.if_icmp .ne 5, 3) := by decide +kernel
theorem dX0_orderIfPossible_25 : decode cX0_orderIfPossible 25 = .ok (.iconst 0, 1) := by decide +kernel
theorem dX0_orderIfPossible_26 : decode cX0_orderIfPossible 26 = .ok (.ireturn, 1) := by decide +kernel
theorem dX0_orderIfPossible_27 : decode cX0_orderIfPossible 27 = .ok (.aload_n 0, 1) := by decide +kernel
theorem dX0_orderIfPossible_28 : decode cX0_orderIfPossible 28 = .ok (.iload_n 1, 1) := by decide +kernel
theorem dX0_orderIfPossible_29 : decode cX0_orderIfPossible 29 = .ok (.iload_n 2, 1) := by decide +kernel
theorem dX0_orderIfPossible_30 : decode cX0_orderIfPossible 30 = .ok (.iconst 1, 1) := by decide +kernel
theorem dX0_orderIfPossible_31 : decode cX0_orderIfPossible 31 = .ok (.iconst 1, 1) := by decide +kernel
theorem dX0_orderIfPossible_32 : decode cX0_orderIfPossible 32 = .ok (.invokevirtual 55, 3) := by decide +kernel
theorem dX0_orderIfPossible_35 : decode cX0_orderIfPossible 35 = .ok (.ireturn, 1) := by decide +kernel
set_option maxRecDepth 20000 in
theorem ggX0_reach_X0_turn : GoodIn wsX0_reach wsX0_turn := goodIn_r _ [5, 6, 7, 8, 4, 9, 10, 11, 12, 13, 14, 15, 16, 17, 18, 19, 20, 21, 22, 23, 24, 25, 26, 27, 28] (by decide +kernel) (by decide +kernel)
set_option maxRecDepth 20000 in
theorem gX0_reach_X0_turn : GoodIn wsX0_reach (wsV RX0 51 RX0 yX0_turn wsX0_turn) := goodIn_app (goodIn_of _ (by decide +kernel)) ggX0_reach_X0_turn
theorem dX0_reach_0 : decode cX0_reach 0 = .ok (.iconst 0, 1) := by decide +kernel
theorem dX0_reach_1 : decode cX0_reach 1 = .ok (.istore_n 2, 1) := by decide +kernel
theorem dX0_reach_2 : decode cX0_reach 2 = .ok (.iconst 0, 1) := by decide +kernel
theorem dX0_reach_3 : decode cX0_reach 3 = .ok (.istore_n 3, 1) := by decide +kernel
theorem dX0_reach_4 : decode cX0_reach 4 = .ok (.iload_n 3, 1) := by decide +kernel
theorem dX0_reach_5 : decode cX0_reach 5 = .ok (.bipush 15, 2) := by decide +kernel
theorem dX0_reach_7 : decode cX0_reach 7 = .ok (.if_icmp .gt 23, 3) := by decide +kernel
theorem dX0_reach_10 : decode cX0_reach 10 = .ok (.aload_n 0, 1) := by decide +kernel
theorem dX0_reach_11 : decode cX0_reach 11 = .ok (.iload_n 1, 1) := by decide +kernel
theorem dX0_reach_12 : decode cX0_reach 12 = .ok (.iload_n 3, 1) := by decide +kernel
theorem dX0_reach_13 : decode cX0_reach 13 = .ok (.iconst 0, 1) := by decide +kernel
theorem dX0_reach_14 : decode cX0_reach 14 = .ok (.invokevirtual 51, 3) := by decide +kernel
theorem dX0_reach_17 : decode cX0_reach 17 = .ok (.iconst (-1), 1) := by decide +kernel
theorem dX0_reach_18 : decode cX0_reach 18 = .ok (.if_icmp .eq 6, 3) := by decide +kernel
theorem dX0_reach_21 : decode cX0_reach 21 = .ok (.iinc 2 1, 3) := by decide +kernel
theorem dX0_reach_24 : decode cX0_reach 24 = .ok (.iinc 3 1, 3) := by decide +kernel
theorem dX0_reach_27 : decode cX0_reach 27 = .ok (.goto (-23), 3) := by decide +kernel
theorem dX0_reach_30 : decode cX0_reach 30 = .ok (.iload_n 2, 1) := by decide +kernel
theorem dX0_reach_31 : decode cX0_reach 31 = .ok (.ireturn, 1) := by decide +kernel
theorem dX0_allMoved_0 : decode cX0_allMoved 0 = .ok (.iconst 0, 1) := by decide +kernel
theorem dX0_allMoved_1 : decode cX0_allMoved 1 = .ok (.istore_n 1, 1) := by decide +kernel
theorem dX0_allMoved_2 : decode cX0_allMoved 2 = .ok (.iconst 0, 1) := by decide +kernel
theorem dX0_allMoved_3 : decode cX0_allMoved 3 = .ok (.istore_n 2, 1) := by decide +kernel
theorem dX0_allMoved_4 : decode cX0_allMoved 4 = .ok (.iload_n 2, 1) := by decide +kernel
theorem dX0_allMoved_5 : decode cX0_allMoved 5 = .ok (.bipush 9, 2) := by decide +kernel
theorem dX0_allMoved_7 : decode cX0_allMoved 7 = .ok (.if_icmp .ge 18, 3) := by decide +kernel
theorem dX0_allMoved_10 : decode cX0_allMoved 10 = .ok (.iload_n 1, 1) := by decide +kernel
theorem dX0_allMoved_11 : decode cX0_allMoved 11 = .ok (.aload_n 0, 1) := by decide +kernel
theorem dX0_allMoved_12 : decode cX0_allMoved 12 = .ok (.getfield 24, 3) := by decide +kernel
theorem dX0_allMoved_15 : decode cX0_allMoved 15 = .ok (.iload_n 2, 1) := by decide +kernel
theorem dX0_allMoved_16 : decode cX0_allMoved 16 = .ok (.iaload, 1) := by decide +kernel
theorem dX0_allMoved_17 : decode cX0_allMoved 17 = .ok (.iadd, 1) := by decide +kernel
theorem dX0_allMoved_18 : decode cX0_allMoved 18 = .ok (.istore_n 1, 1) := by decide +kernel
theorem dX0_allMoved_19 : decode cX0_allMoved 19 = .ok (.iinc 2 1, 3) := by decide +kernel
theorem dX0_allMoved_22 : decode cX0_allMoved 22 = .ok (.goto (-18), 3) := by decide +kernel
theorem dX0_allMoved_25 : decode cX0_allMoved 25 = .ok (.iload_n 1, 1) := by decide +kernel
theorem dX0_allMoved_26 : decode cX0_allMoved 26 = .ok (.ireturn, 1) := by decide +kernel
theorem dX0_allLoans_0 : decode cX0_allLoans 0 = .ok (.iconst 0, 1) := by decide +kernel
theorem dX0_allLoans_1 : decode cX0_allLoans 1 = .ok (.istore_n 1, 1) := by decide +kernel
theorem dX0_allLoans_2 : decode cX0_allLoans 2 = .ok (.iconst 0, 1) := by decide +kernel
theorem dX0_allLoans_3 : decode cX0_allLoans 3 = .ok (.istore_n 2, 1) := by decide +kernel
theorem dX0_allLoans_4 : decode cX0_allLoans 4 = .ok (.iload_n 2, 1) := by decide +kernel
theorem dX0_allLoans_5 : decode cX0_allLoans 5 = .ok (.bipush 9, 2) := by decide +kernel
theorem dX0_allLoans_7 : decode cX0_allLoans 7 = .ok (.if_icmp .ge 18, 3) := by decide +kernel
theorem dX0_allLoans_10 : decode cX0_allLoans 10 = .ok (.iload_n 1, 1) := by decide +kernel
theorem dX0_allLoans_11 : decode cX0_allLoans 11 = .ok (.aload_n 0, 1) := by decide +kernel
theorem dX0_allLoans_12 : decode cX0_allLoans 12 = .ok (.getfield 21, 3) := by decide +kernel
theorem dX0_allLoans_15 : decode cX0_allLoans 15 = .ok (.iload_n 2, 1) := by decide +kernel
theorem dX0_allLoans_16 : decode cX0_allLoans 16 = .ok (.iaload, 1) := by decide +kernel
theorem dX0_allLoans_17 : decode cX0_allLoans 17 = .ok (.iadd, 1) := by decide +kernel
theorem dX0_allLoans_18 : decode cX0_allLoans 18 = .ok (.istore_n 1, 1) := by decide +kernel
theorem dX0_allLoans_19 : decode cX0_allLoans 19 = .ok (.iinc 2 1, 3) := by decide +kernel
theorem dX0_allLoans_22 : decode cX0_allLoans 22 = .ok (.goto (-18), 3) := by decide +kernel
theorem dX0_allLoans_25 : decode cX0_allLoans 25 = .ok (.iload_n 1, 1) := by decide +kernel
theorem dX0_allLoans_26 : decode cX0_allLoans 26 = .ok (.ireturn, 1) := by decide +kernel
set_option maxRecDepth 20000 in
theorem ggX0_allShown_X0_shown : GoodIn wsX0_allShown wsX0_shown := goodIn_r _ [5, 6, 7, 8, 9, 10, 11, 12, 13, 14] (by decide +kernel) (by decide +kernel)
set_option maxRecDepth 20000 in
theorem gX0_allShown_X0_shown : GoodIn wsX0_allShown (wsV RX0 48 RX0 yX0_shown wsX0_shown) := goodIn_app (goodIn_of _ (by decide +kernel)) ggX0_allShown_X0_shown
theorem dX0_allShown_0 : decode cX0_allShown 0 = .ok (.iconst 0, 1) := by decide +kernel
theorem dX0_allShown_1 : decode cX0_allShown 1 = .ok (.istore_n 1, 1) := by decide +kernel
theorem dX0_allShown_2 : decode cX0_allShown 2 = .ok (.iconst 0, 1) := by decide +kernel
theorem dX0_allShown_3 : decode cX0_allShown 3 = .ok (.istore_n 2, 1) := by decide +kernel
theorem dX0_allShown_4 : decode cX0_allShown 4 = .ok (.iload_n 2, 1) := by decide +kernel
theorem dX0_allShown_5 : decode cX0_allShown 5 = .ok (.bipush 9, 2) := by decide +kernel
theorem dX0_allShown_7 : decode cX0_allShown 7 = .ok (.if_icmp .ge 17, 3) := by decide +kernel
theorem dX0_allShown_10 : decode cX0_allShown 10 = .ok (.iload_n 1, 1) := by decide +kernel
theorem dX0_allShown_11 : decode cX0_allShown 11 = .ok (.aload_n 0, 1) := by decide +kernel
theorem dX0_allShown_12 : decode cX0_allShown 12 = .ok (.iload_n 2, 1) := by decide +kernel
theorem dX0_allShown_13 : decode cX0_allShown 13 = .ok (.invokevirtual 48, 3) := by decide +kernel
theorem dX0_allShown_16 : decode cX0_allShown 16 = .ok (.iadd, 1) := by decide +kernel
theorem dX0_allShown_17 : decode cX0_allShown 17 = .ok (.istore_n 1, 1) := by decide +kernel
theorem dX0_allShown_18 : decode cX0_allShown 18 = .ok (.iinc 2 1, 3) := by decide +kernel
theorem dX0_allShown_21 : decode cX0_allShown 21 = .ok (.goto (-17), 3) := by decide +kernel
theorem dX0_allShown_24 : decode cX0_allShown 24 = .ok (.iload_n 1, 1) := by decide +kernel
theorem dX0_allShown_25 : decode cX0_allShown 25 = .ok (.ireturn, 1) := by decide +kernel
theorem dX0_rodsWithLoan_0 : decode cX0_rodsWithLoan 0 = .ok (.iconst 0, 1) := by decide +kernel
theorem dX0_rodsWithLoan_1 : decode cX0_rodsWithLoan 1 = .ok (.istore_n 1, 1) := by decide +kernel
theorem dX0_rodsWithLoan_2 : decode cX0_rodsWithLoan 2 = .ok (.iconst 0, 1) := by decide +kernel
theorem dX0_rodsWithLoan_3 : decode cX0_rodsWithLoan 3 = .ok (.istore_n 2, 1) := by decide +kernel
theorem dX0_rodsWithLoan_4 : decode cX0_rodsWithLoan 4 = .ok (.iload_n 2, 1) := by decide +kernel
theorem dX0_rodsWithLoan_5 : decode cX0_rodsWithLoan 5 = .ok (.bipush 9, 2) := by decide +kernel
theorem dX0_rodsWithLoan_7 : decode cX0_rodsWithLoan 7 = .ok (.if_icmp .ge 21, 3) := by decide +kernel
theorem dX0_rodsWithLoan_10 : decode cX0_rodsWithLoan 10 = .ok (.aload_n 0, 1) := by decide +kernel
theorem dX0_rodsWithLoan_11 : decode cX0_rodsWithLoan 11 = .ok (.getfield 21, 3) := by decide +kernel
theorem dX0_rodsWithLoan_14 : decode cX0_rodsWithLoan 14 = .ok (.iload_n 2, 1) := by decide +kernel
theorem dX0_rodsWithLoan_15 : decode cX0_rodsWithLoan 15 = .ok (.iaload, 1) := by decide +kernel
theorem dX0_rodsWithLoan_16 : decode cX0_rodsWithLoan 16 = .ok (.ifCond .eq 6, 3) := by decide +kernel
theorem dX0_rodsWithLoan_19 : decode cX0_rodsWithLoan 19 = .ok (.iinc 1 1, 3) := by decide +kernel
theorem dX0_rodsWithLoan_22 : decode cX0_rodsWithLoan 22 = .ok (.iinc 2 1, 3) := by decide +kernel
theorem dX0_rodsWithLoan_25 : decode cX0_rodsWithLoan 25 = .ok (.goto (-21), 3) := by decide +kernel
theorem dX0_rodsWithLoan_28 : decode cX0_rodsWithLoan 28 = .ok (.iload_n 1, 1) := by decide +kernel
theorem dX0_rodsWithLoan_29 : decode cX0_rodsWithLoan 29 = .ok (.ireturn, 1) := by decide +kernel
set_option maxRecDepth 20000 in
theorem ggX0_rodsOutOfOrder_X0_shown : GoodIn wsX0_rodsOutOfOrder wsX0_shown := goodIn_r _ [5, 6, 7, 8, 9, 10, 11, 12, 13, 14] (by decide +kernel) (by decide +kernel)
set_option maxRecDepth 20000 in
theorem gX0_rodsOutOfOrder_X0_shown : GoodIn wsX0_rodsOutOfOrder (wsV RX0 48 RX0 yX0_shown wsX0_shown) := goodIn_app (goodIn_of _ (by decide +kernel)) ggX0_rodsOutOfOrder_X0_shown
theorem dX0_rodsOutOfOrder_0 : decode cX0_rodsOutOfOrder 0 = .ok (.iconst 0, 1) := by decide +kernel
theorem dX0_rodsOutOfOrder_1 : decode cX0_rodsOutOfOrder 1 = .ok (.istore_n 1, 1) := by decide +kernel
theorem dX0_rodsOutOfOrder_2 : decode cX0_rodsOutOfOrder 2 = .ok (.iconst 0, 1) := by decide +kernel
theorem dX0_rodsOutOfOrder_3 : decode cX0_rodsOutOfOrder 3 = .ok (.istore_n 2, 1) := by decide +kernel
theorem dX0_rodsOutOfOrder_4 : decode cX0_rodsOutOfOrder 4 = .ok (.iload_n 2, 1) := by decide +kernel
theorem dX0_rodsOutOfOrder_5 : decode cX0_rodsOutOfOrder 5 = .ok (.bipush 9, 2) := by decide +kernel
theorem dX0_rodsOutOfOrder_7 : decode cX0_rodsOutOfOrder 7 = .ok (.if_icmp .ge 22, 3) := by decide +kernel
theorem dX0_rodsOutOfOrder_10 : decode cX0_rodsOutOfOrder 10 = .ok (.aload_n 0, 1) := by decide +kernel
theorem dX0_rodsOutOfOrder_11 : decode cX0_rodsOutOfOrder 11 = .ok (.iload_n 2, 1) := by decide +kernel
theorem dX0_rodsOutOfOrder_12 : decode cX0_rodsOutOfOrder 12 = .ok (.invokevirtual 48, 3) := by decide +kernel
theorem dX0_rodsOutOfOrder_15 : decode cX0_rodsOutOfOrder 15 = .ok (.bipush 10, 2) := by decide +kernel
theorem dX0_rodsOutOfOrder_17 : decode cX0_rodsOutOfOrder 17 = .ok (.if_icmp .lt 6, 3) := by decide +kernel
theorem dX0_rodsOutOfOrder_20 : decode cX0_rodsOutOfOrder 20 = .ok (.iinc 1 1, 3) := by decide +kernel
theorem dX0_rodsOutOfOrder_23 : decode cX0_rodsOutOfOrder 23 = .ok (.iinc 2 1, 3) := by decide +kernel
theorem dX0_rodsOutOfOrder_26 : decode cX0_rodsOutOfOrder 26 = .ok (.goto (-22), 3) := by decide +kernel
theorem dX0_rodsOutOfOrder_29 : decode cX0_rodsOutOfOrder 29 = .ok (.iload_n 1, 1) := by decide +kernel
theorem dX0_rodsOutOfOrder_30 : decode cX0_rodsOutOfOrder 30 = .ok (.ireturn, 1) := by decide +kernel
theorem dX0_rodsWithStuck_0 : decode cX0_rodsWithStuck 0 = .ok (.iconst 0, 1) := by decide +kernel
theorem dX0_rodsWithStuck_1 : decode cX0_rodsWithStuck 1 = .ok (.istore_n 1, 1) := by decide +kernel
theorem dX0_rodsWithStuck_2 : decode cX0_rodsWithStuck 2 = .ok (.iconst 0, 1) := by decide +kernel
theorem dX0_rodsWithStuck_3 : decode cX0_rodsWithStuck 3 = .ok (.istore_n 2, 1) := by decide +kernel
theorem dX0_rodsWithStuck_4 : decode cX0_rodsWithStuck 4 = .ok (.iload_n 2, 1) := by decide +kernel
theorem dX0_rodsWithStuck_5 : decode cX0_rodsWithStuck 5 = .ok (.bipush 9, 2) := by decide +kernel
theorem dX0_rodsWithStuck_7 : decode cX0_rodsWithStuck 7 = .ok (.if_icmp .ge 21, 3) := by decide +kernel
theorem dX0_rodsWithStuck_10 : decode cX0_rodsWithStuck 10 = .ok (.aload_n 0, 1) := by decide +kernel
theorem dX0_rodsWithStuck_11 : decode cX0_rodsWithStuck 11 = .ok (.getfield 18, 3) := by decide +kernel
theorem dX0_rodsWithStuck_14 : decode cX0_rodsWithStuck 14 = .ok (.iload_n 2, 1) := by decide +kernel
theorem dX0_rodsWithStuck_15 : decode cX0_rodsWithStuck 15 = .ok (.iaload, 1) := by decide +kernel
theorem dX0_rodsWithStuck_16 : decode cX0_rodsWithStuck 16 = .ok (.ifCond .eq 6, 3) := by decide +kernel
theorem dX0_rodsWithStuck_19 : decode cX0_rodsWithStuck 19 = .ok (.iinc 1 1, 3) := by decide +kernel
theorem dX0_rodsWithStuck_22 : decode cX0_rodsWithStuck 22 = .ok (.iinc 2 1, 3) := by decide +kernel
theorem dX0_rodsWithStuck_25 : decode cX0_rodsWithStuck 25 = .ok (.goto (-21), 3) := by decide +kernel
theorem dX0_rodsWithStuck_28 : decode cX0_rodsWithStuck 28 = .ok (.iload_n 1, 1) := by decide +kernel
theorem dX0_rodsWithStuck_29 : decode cX0_rodsWithStuck 29 = .ok (.ireturn, 1) := by decide +kernel
set_option maxRecDepth 20000 in
theorem ggX1_init_X0_init : GoodIn wsX1_init wsX0_init := goodIn_r _ [12, 13, 2, 3, 14, 15, 16, 17, 18, 19, 20, 21, 25, 26, 27, 28, 29, 30, 31] (by decide +kernel) (by decide +kernel)
set_option maxRecDepth 20000 in
theorem gX1_init_X0_init : GoodIn wsX1_init (wsX0_init) := ggX1_init_X0_init
theorem dX1_init_0 : decode cX1_init 0 = .ok (.aload_n 0, 1) := by decide +kernel
theorem dX1_init_1 : decode cX1_init 1 = .ok (.invokespecial 3, 3) := by decide +kernel
theorem dX1_init_4 : decode cX1_init 4 = .ok (.aload_n 0, 1) := by decide +kernel
theorem dX1_init_5 : decode cX1_init 5 = .ok (.bipush 6, 2) := by decide +kernel
theorem dX1_init_7 : decode cX1_init 7 = .ok (.anewarray 9, 3) := by decide +kernel
theorem dX1_init_10 : decode cX1_init 10 = .ok (.putfield 11, 3) := by decide +kernel
theorem dX1_init_13 : decode cX1_init 13 = .ok (.aload_n 0, 1) := by decide +kernel
theorem dX1_init_14 : decode cX1_init 14 = .ok (.iconst 0, 1) := by decide +kernel
theorem dX1_init_15 : decode cX1_init 15 = .ok (.putfield 17, 3) := by decide +kernel
theorem dX1_init_18 : decode cX1_init 18 = .ok (.aload_n 0, 1) := by decide +kernel
theorem dX1_init_19 : decode cX1_init 19 = .ok (.iconst 0, 1) := by decide +kernel
theorem dX1_init_20 : decode cX1_init 20 = .ok (.putfield 21, 3) := by decide +kernel
theorem dX1_init_23 : decode cX1_init 23 = .ok (.iconst 0, 1) := by decide +kernel
theorem dX1_init_24 : decode cX1_init 24 = .ok (.istore_n 1, 1) := by decide +kernel
theorem dX1_init_25 : decode cX1_init 25 = .ok (.iload_n 1, 1) := by decide +kernel
theorem dX1_init_26 : decode cX1_init 26 = .ok (.bipush 6, 2) := by decide +kernel
theorem dX1_init_28 : decode cX1_init 28 = .ok (.if_icmp .ge 22, 3) := by decide +kernel
theorem dX1_init_31 : decode cX1_init 31 = .ok (.aload_n 0, 1) := by decide +kernel
theorem dX1_init_32 : decode cX1_init 32 = .ok (.getfield 11, 3) := by decide +kernel
theorem dX1_init_35 : decode cX1_init 35 = .ok (.iload_n 1, 1) := by decide +kernel
theorem dX1_init_36 : decode cX1_init 36 = .ok (.new 9, 3) := by decide +kernel
theorem dX1_init_39 : decode cX1_init 39 = .ok (.dup, 1) := by decide +kernel
theorem dX1_init_40 : decode cX1_init 40 = .ok (.invokespecial 24, 3) := by decide +kernel
theorem dX1_init_43 : decode cX1_init 43 = .ok (.aastore, 1) := by decide +kernel
theorem dX1_init_44 : decode cX1_init 44 = .ok (.iinc 1 1, 3) := by decide +kernel
theorem dX1_init_47 : decode cX1_init 47 = .ok (.goto (-22), 3) := by decide +kernel
theorem dX1_init_50 : decode cX1_init 50 = .ok (.return_, 1) := by decide +kernel
set_option maxRecDepth 20000 in
theorem ggX1_keep_X0_copyFrom : GoodIn wsX1_keep wsX0_copyFrom := goodIn_r _ [8, 9, 10, 11, 12, 13, 14, 15, 19, 20, 21, 22, 23, 24, 25] (by decide +kernel) (by decide +kernel)
set_option maxRecDepth 20000 in
theorem gX1_keep_X0_copyFrom : GoodIn wsX1_keep (wsV RX1 25 RX0 yX0_copyFrom wsX0_copyFrom) := goodIn_app (goodIn_of _ (by decide +kernel)) ggX1_keep_X0_copyFrom
theorem dX1_keep_0 : decode cX1_keep 0 = .ok (.aload_n 0, 1) := by decide +kernel
theorem dX1_keep_1 : decode cX1_keep 1 = .ok (.getfield 21, 3) := by decide +kernel
theorem dX1_keep_4 : decode cX1_keep 4 = .ok (.bipush 6, 2) := by decide +kernel
theorem dX1_keep_6 : decode cX1_keep 6 = .ok (.if_icmp .ne 26, 3) := by decide +kernel
theorem dX1_keep_9 : decode cX1_keep 9 = .ok (.aload_n 0, 1) := by decide +kernel
theorem dX1_keep_10 : decode cX1_keep 10 = .ok (.aload_n 0, 1) := by decide +kernel
theorem dX1_keep_11 : decode cX1_keep 11 = .ok (.getfield 17, 3) := by decide +kernel
theorem dX1_keep_14 : decode cX1_keep 14 = .ok (.iconst 1, 1) := by decide +kernel
theorem dX1_keep_15 : decode cX1_keep 15 = .ok (.iadd, 1) := by decide +kernel
theorem dX1_keep_16 : decode cX1_keep 16 = .ok (.bipush 6, 2) := by decide +kernel
theorem dX1_keep_18 : decode cX1_keep 18 = .ok (.irem, 1) := by decide +kernel
theorem dX1_keep_19 : decode cX1_keep 19 = .ok (.putfield 17, 3) := by decide +kernel
theorem dX1_keep_22 : decode cX1_keep 22 = .ok (.aload_n 0, 1) := by decide +kernel
theorem dX1_keep_23 : decode cX1_keep 23 = .ok (.dup, 1) := by decide +kernel
theorem dX1_keep_24 : decode cX1_keep 24 = .ok (.getfield 21, 3) := by decide +kernel
theorem dX1_keep_27 : decode cX1_keep 27 = .ok (.iconst 1, 1) := by decide +kernel
theorem dX1_keep_28 : decode cX1_keep 28 = .ok (.isub, 1) := by decide +kernel
theorem dX1_keep_29 : decode cX1_keep 29 = .ok (.putfield 21, 3) := by decide +kernel
theorem dX1_keep_32 : decode cX1_keep 32 = .ok (.aload_n 0, 1) := by decide +kernel
theorem dX1_keep_33 : decode cX1_keep 33 = .ok (.getfield 11, 3) := by decide +kernel
theorem dX1_keep_36 : decode cX1_keep 36 = .ok (.aload_n 0, 1) := by decide +kernel
theorem dX1_keep_37 : decode cX1_keep 37 = .ok (.getfield 17, 3) := by decide +kernel
theorem dX1_keep_40 : decode cX1_keep 40 = .ok (.aload_n 0, 1) := by decide +kernel
theorem dX1_keep_41 : decode cX1_keep 41 = .ok (.getfield 21, 3) := by decide +kernel
theorem dX1_keep_44 : decode cX1_keep 44 = .ok (.iadd, 1) := by decide +kernel
theorem dX1_keep_45 : decode cX1_keep 45 = .ok (.bipush 6, 2) := by decide +kernel
theorem dX1_keep_47 : decode cX1_keep 47 = .ok (.irem, 1) := by decide +kernel
theorem dX1_keep_48 : decode cX1_keep 48 = .ok (.aaload, 1) := by decide +kernel
theorem dX1_keep_49 : decode cX1_keep 49 = .ok (.aload_n 1, 1) := by decide +kernel
theorem dX1_keep_50 : decode cX1_keep 50 = .ok (.invokevirtual 25, 3) := by decide +kernel
theorem dX1_keep_53 : decode cX1_keep 53 = .ok (.aload_n 0, 1) := by decide +kernel
theorem dX1_keep_54 : decode cX1_keep 54 = .ok (.dup, 1) := by decide +kernel
theorem dX1_keep_55 : decode cX1_keep 55 = .ok (.getfield 21, 3) := by decide +kernel
theorem dX1_keep_58 : decode cX1_keep 58 = .ok (.iconst 1, 1) := by decide +kernel
theorem dX1_keep_59 : decode cX1_keep 59 = .ok (.iadd, 1) := by decide +kernel
theorem dX1_keep_60 : decode cX1_keep 60 = .ok (.putfield 21, 3) := by decide +kernel
theorem dX1_keep_63 : decode cX1_keep 63 = .ok (.return_, 1) := by decide +kernel
set_option maxRecDepth 20000 in
theorem ggX1_restore_X0_copyFrom : GoodIn wsX1_restore wsX0_copyFrom := goodIn_r _ [8, 9, 10, 11, 12, 13, 14, 15, 19, 20, 21, 22, 23, 24, 25] (by decide +kernel) (by decide +kernel)
set_option maxRecDepth 20000 in
theorem gX1_restore_X0_copyFrom : GoodIn wsX1_restore (wsV RX1 25 RX0 yX0_copyFrom wsX0_copyFrom) := goodIn_app (goodIn_of _ (by decide +kernel)) ggX1_restore_X0_copyFrom
theorem dX1_restore_0 : decode cX1_restore 0 = .ok (.aload_n 0, 1) := by decide +kernel
theorem dX1_restore_1 : decode cX1_restore 1 = .ok (.getfield 21, 3) := by decide +kernel
theorem dX1_restore_4 : decode cX1_restore 4 = .ok (.ifCond .le 34, 3) := by decide +kernel
theorem dX1_restore_7 : decode cX1_restore 7 = .ok (.aload_n 0, 1) := by decide +kernel
theorem dX1_restore_8 : decode cX1_restore 8 = .ok (.dup, 1) := by decide +kernel
theorem dX1_restore_9 : decode cX1_restore 9 = .ok (.getfield 21, 3) := by decide +kernel
theorem dX1_restore_12 : decode cX1_restore 12 = .ok (.iconst 1, 1) := by decide +kernel
theorem dX1_restore_13 : decode cX1_restore 13 = .ok (.isub, 1) := by decide +kernel
theorem dX1_restore_14 : decode cX1_restore 14 = .ok (.putfield 21, 3) := by decide +kernel
theorem dX1_restore_17 : decode cX1_restore 17 = .ok (.aload_n 1, 1) := by decide +kernel
theorem dX1_restore_18 : decode cX1_restore 18 = .ok (.aload_n 0, 1) := by decide +kernel
theorem dX1_restore_19 : decode cX1_restore 19 = .ok (.getfield 11, 3) := by decide +kernel
theorem dX1_restore_22 : decode cX1_restore 22 = .ok (.aload_n 0, 1) := by decide +kernel
theorem dX1_restore_23 : decode cX1_restore 23 = .ok (.getfield 17, 3) := by decide +kernel
theorem dX1_restore_26 : decode cX1_restore 26 = .ok (.aload_n 0, 1) := by decide +kernel
theorem dX1_restore_27 : decode cX1_restore 27 = .ok (.getfield 21, 3) := by decide +kernel
theorem dX1_restore_30 : decode cX1_restore 30 = .ok (.iadd, 1) := by decide +kernel
theorem dX1_restore_31 : decode cX1_restore 31 = .ok (.bipush 6, 2) := by decide +kernel
theorem dX1_restore_33 : decode cX1_restore 33 = .ok (.irem, 1) := by decide +kernel
theorem dX1_restore_34 : decode cX1_restore 34 = .ok (.aaload, 1) := by decide +kernel
theorem dX1_restore_35 : decode cX1_restore 35 = .ok (.invokevirtual 25, 3) := by decide +kernel
theorem dX1_restore_38 : decode cX1_restore 38 = .ok (.return_, 1) := by decide +kernel
theorem dX2_init_0 : decode cX2_init 0 = .ok (.aload_n 0, 1) := by decide +kernel
theorem dX2_init_1 : decode cX2_init 1 = .ok (.invokespecial 3, 3) := by decide +kernel
theorem dX2_init_4 : decode cX2_init 4 = .ok (.aload_n 0, 1) := by decide +kernel
theorem dX2_init_5 : decode cX2_init 5 = .ok (.bipush 60, 2) := by decide +kernel
theorem dX2_init_7 : decode cX2_init 7 = .ok (.newarray .int, 2) := by decide +kernel
theorem dX2_init_9 : decode cX2_init 9 = .ok (.putfield 9, 3) := by decide +kernel
theorem dX2_init_12 : decode cX2_init 12 = .ok (.aload_n 0, 1) := by decide +kernel
theorem dX2_init_13 : decode cX2_init 13 = .ok (.iconst 0, 1) := by decide +kernel
theorem dX2_init_14 : decode cX2_init 14 = .ok (.putfield 15, 3) := by decide +kernel
theorem dX2_init_17 : decode cX2_init 17 = .ok (.return_, 1) := by decide +kernel
set_option maxRecDepth 20000 in
theorem ggX2_firstWrong_X3_isSign : GoodIn wsX2_firstWrong wsX3_isSign := goodIn_r _ [5] (by decide +kernel) (by decide +kernel)
set_option maxRecDepth 20000 in
theorem gX2_firstWrong_X3_isSign_n19 : GoodIn wsX2_firstWrong (wsX3_isSign) := ggX2_firstWrong_X3_isSign
set_option maxRecDepth 20000 in
theorem ggX2_firstWrong_X3_isDigit : GoodIn wsX2_firstWrong wsX3_isDigit := goodIn_r _ [7] (by decide +kernel) (by decide +kernel)
set_option maxRecDepth 20000 in
theorem gX2_firstWrong_X3_isDigit_n23 : GoodIn wsX2_firstWrong (wsX3_isDigit) := ggX2_firstWrong_X3_isDigit
theorem dX2_firstWrong_0 : decode cX2_firstWrong 0 = .ok (.iconst 0, 1) := by decide +kernel
theorem dX2_firstWrong_1 : decode cX2_firstWrong 1 = .ok (.istore_n 1, 1) := by decide +kernel
theorem dX2_firstWrong_2 : decode cX2_firstWrong 2 = .ok (.iconst 0, 1) := by decide +kernel
theorem dX2_firstWrong_3 : decode cX2_firstWrong 3 = .ok (.istore_n 2, 1) := by decide +kernel
theorem dX2_firstWrong_4 : decode cX2_firstWrong 4 = .ok (.iload_n 2, 1) := by decide +kernel
theorem dX2_firstWrong_5 : decode cX2_firstWrong 5 = .ok (.aload_n 0, 1) := by decide +kernel
theorem dX2_firstWrong_6 : decode cX2_firstWrong 6 = .ok (.getfield 15, 3) := by decide +kernel
theorem dX2_firstWrong_9 : decode cX2_firstWrong 9 = .ok (.if_icmp .ge 105, 3) := by decide +kernel
theorem dX2_firstWrong_12 : decode cX2_firstWrong 12 = .ok (.iload_n 2, 1) := by decide +kernel
theorem dX2_firstWrong_13 : decode cX2_firstWrong 13 = .ok (.bipush 60, 2) := by decide +kernel
theorem dX2_firstWrong_15 : decode cX2_firstWrong 15 = .ok (.if_icmp .ge 99, 3) := by decide +kernel
theorem dX2_firstWrong_18 : decode cX2_firstWrong 18 = .ok (.iload_n 2, 1) := by decide +kernel
theorem dX2_firstWrong_19 : decode cX2_firstWrong 19 = .ok (.ifCond .le 21, 3) := by decide +kernel
theorem dX2_firstWrong_22 : decode cX2_firstWrong 22 = .ok (.aload_n 0, 1) := by decide +kernel
theorem dX2_firstWrong_23 : decode cX2_firstWrong 23 = .ok (.getfield 9, 3) := by decide +kernel
theorem dX2_firstWrong_26 : decode cX2_firstWrong 26 = .ok (.iload_n 2, 1) := by decide +kernel
theorem dX2_firstWrong_27 : decode cX2_firstWrong 27 = .ok (.iconst 1, 1) := by decide +kernel
theorem dX2_firstWrong_28 : decode cX2_firstWrong 28 = .ok (.isub, 1) := by decide +kernel
theorem dX2_firstWrong_29 : decode cX2_firstWrong 29 = .ok (.iaload, 1) := by decide +kernel
theorem dX2_firstWrong_30 : decode cX2_firstWrong 30 = .ok (.invokestatic 19, 3) := by decide +kernel
theorem dX2_firstWrong_33 : decode cX2_firstWrong 33 = .ok (.ifCond .eq 7, 3) := by decide +kernel
theorem dX2_firstWrong_36 : decode cX2_firstWrong 36 = .ok (.iconst 1, 1) := by decide +kernel
theorem dX2_firstWrong_37 : decode cX2_firstWrong 37 = .ok (.goto 4, 3) := by decide +kernel
theorem dX2_firstWrong_40 : decode cX2_firstWrong 40 = .ok (.iconst 0, 1) := by decide +kernel
theorem dX2_firstWrong_41 : decode cX2_firstWrong 41 = .ok (.istore_n 3, 1) := by decide +kernel
theorem dX2_firstWrong_42 : decode cX2_firstWrong 42 = .ok (.aload_n 0, 1) := by decide +kernel
theorem dX2_firstWrong_43 : decode cX2_firstWrong 43 = .ok (.getfield 9, 3) := by decide +kernel
theorem dX2_firstWrong_46 : decode cX2_firstWrong 46 = .ok (.iload_n 2, 1) := by decide +kernel
theorem dX2_firstWrong_47 : decode cX2_firstWrong 47 = .ok (.iaload, 1) := by decide +kernel
theorem dX2_firstWrong_48 : decode cX2_firstWrong 48 = .ok (.invokestatic 19, 3) := by decide +kernel
theorem dX2_firstWrong_51 : decode cX2_firstWrong 51 = .ok (.ifCond .eq 13, 3) := by decide +kernel
theorem dX2_firstWrong_54 : decode cX2_firstWrong 54 = .ok (.iload_n 3, 1) := by decide +kernel
theorem dX2_firstWrong_55 : decode cX2_firstWrong 55 = .ok (.ifCond .ne 9, 3) := by decide +kernel
theorem dX2_firstWrong_58 : decode cX2_firstWrong 58 = .ok (.bipush 6, 2) := by decide +kernel
theorem dX2_firstWrong_60 : decode cX2_firstWrong 60 = .ok (.istore_n 1, 1) := by decide +kernel
theorem dX2_firstWrong_61 : decode cX2_firstWrong 61 = .ok (.goto 47, 3) := by decide +kernel
theorem dX2_firstWrong_64 : decode cX2_firstWrong 64 = .ok (.aload_n 0, 1) := by decide +kernel
theorem dX2_firstWrong_65 : decode cX2_firstWrong 65 = .ok (.getfield 9, 3) := by decide +kernel
theorem dX2_firstWrong_68 : decode cX2_firstWrong 68 = .ok (.iload_n 2, 1) := by decide +kernel
theorem dX2_firstWrong_69 : decode cX2_firstWrong 69 = .ok (.iaload, 1) := by decide +kernel
theorem dX2_firstWrong_70 : decode cX2_firstWrong 70 = .ok (.invokestatic 23, 3) := by decide +kernel
theorem dX2_firstWrong_73 : decode cX2_firstWrong 73 = .ok (.ifCond .eq 33, 3) := by decide +kernel
theorem dX2_firstWrong_76 : decode cX2_firstWrong 76 = .ok (.iload_n 1, 1) := by decide +kernel
theorem dX2_firstWrong_77 : decode cX2_firstWrong 77 = .ok (.ifCond .le 29, 3) := by decide +kernel
theorem dX2_firstWrong_80 : decode cX2_firstWrong 80 = .ok (.iload_n 3, 1) := by decide +kernel
theorem dX2_firstWrong_81 : decode cX2_firstWrong 81 = .ok (.ifCond .eq 18, 3) := by decide +kernel
theorem dX2_firstWrong_84 : decode cX2_firstWrong 84 = .ok (.aload_n 0, 1) := by decide +kernel
theorem dX2_firstWrong_85 : decode cX2_firstWrong 85 = .ok (.getfield 9, 3) := by decide +kernel
theorem dX2_firstWrong_88 : decode cX2_firstWrong 88 = .ok (.iload_n 2, 1) := by decide +kernel
theorem dX2_firstWrong_89 : decode cX2_firstWrong 89 = .ok (.iaload, 1) := by decide +kernel
theorem dX2_firstWrong_90 : decode cX2_firstWrong 90 = .ok (.bipush 48, 2) := by decide +kernel
theorem dX2_firstWrong_92 : decode cX2_firstWrong 92 = .ok (.if_icmp .ne 7, 3) := by decide +kernel
theorem dX2_firstWrong_95 : decode cX2_firstWrong 95 = .ok (.iconst 0, 1) := by decide +kernel
theorem dX2_firstWrong_96 : decode cX2_firstWrong 96 = .ok (.goto 6, 3) := by decide +kernel
theorem dX2_firstWrong_99 : decode cX2_firstWrong 99 = .ok (.iload_n 1, 1) := by decide +kernel
theorem dX2_firstWrong_100 : decode cX2_firstWrong 100 = .ok (.iconst 1, 1) := by decide +kernel
theorem dX2_firstWrong_101 : decode cX2_firstWrong 101 = .ok (.isub, 1) := by decide +kernel
theorem dX2_firstWrong_102 : decode cX2_firstWrong 102 = .ok (.istore_n 1, 1) := by decide +kernel
theorem dX2_firstWrong_103 : decode cX2_firstWrong 103 = .ok (.goto 5, 3) := by decide +kernel
theorem dX2_firstWrong_106 : decode cX2_firstWrong 106 = .ok (.iload_n 2, 1) := by decide +kernel
theorem dX2_firstWrong_107 : decode cX2_firstWrong 107 = .ok (.ireturn, 1) := by decide +kernel
theorem dX2_firstWrong_108 : decode cX2_firstWrong 108 = .ok (.iinc 2 1, 3) := by decide +kernel
theorem dX2_firstWrong_111 : decode cX2_firstWrong 111 = .ok (.goto (-107), 3) := by decide +kernel
theorem dX2_firstWrong_114 : decode cX2_firstWrong 114 = .ok (.aload_n 0, 1) := by decide +kernel
theorem dX2_firstWrong_115 : decode cX2_firstWrong 115 = .ok (.getfield 15, 3) := by decide +kernel
theorem dX2_firstWrong_118 : decode cX2_firstWrong 118 = .ok (.ireturn, 1) := by decide +kernel
set_option maxRecDepth 20000 in
theorem ggX2_isCompleteSum_X2_firstWrong : GoodIn wsX2_isCompleteSum wsX2_firstWrong := goodIn_r _ [7, 1, 2, 8, 9, 10, 11, 12, 13, 14] (by decide +kernel) (by decide +kernel)
set_option maxRecDepth 20000 in
theorem gX2_isCompleteSum_X2_firstWrong : GoodIn wsX2_isCompleteSum (wsV RX2 26 RX2 yX2_firstWrong wsX2_firstWrong) := goodIn_app (goodIn_of _ (by decide +kernel)) ggX2_isCompleteSum_X2_firstWrong
set_option maxRecDepth 20000 in
theorem ggX2_isCompleteSum_X3_isDigit : GoodIn wsX2_isCompleteSum wsX3_isDigit := goodIn_r _ [12] (by decide +kernel) (by decide +kernel)
set_option maxRecDepth 20000 in
theorem gX2_isCompleteSum_X3_isDigit_n23 : GoodIn wsX2_isCompleteSum (wsX3_isDigit) := ggX2_isCompleteSum_X3_isDigit
theorem dX2_isCompleteSum_0 : decode cX2_isCompleteSum 0 = .ok (.aload_n 0, 1) := by decide +kernel
theorem dX2_isCompleteSum_1 : decode cX2_isCompleteSum 1 = .ok (.getfield 15, 3) := by decide +kernel
theorem dX2_isCompleteSum_4 : decode cX2_isCompleteSum 4 = .ok (.iconst 1, 1) := by decide +kernel
theorem dX2_isCompleteSum_5 : decode cX2_isCompleteSum 5 = .ok (.if_icmp .lt 12, 3) := by decide +kernel
theorem dX2_isCompleteSum_8 : decode cX2_isCompleteSum 8 = .ok (.aload_n 0, 1) := by decide +kernel
theorem dX2_isCompleteSum_9 : decode cX2_isCompleteSum 9 = .ok (.getfield 15, 3) := by decide +kernel
theorem dX2_isCompleteSum_12 : decode cX2_isCompleteSum 12 = .ok (.bipush 60, 2) := by decide +kernel
theorem dX2_isCompleteSum_14 : decode cX2_isCompleteSum 14 = .ok (.if_icmp .le 5, 3) := by decide +kernel
theorem dX2_isCompleteSum_17 : decode cX2_isCompleteSum 17 = .ok (.iconst 0, 1) := by decide +kernel
theorem dX2_isCompleteSum_18 : decode cX2_isCompleteSum 18 = .ok (.ireturn, 1) := by decide +kernel
theorem dX2_isCompleteSum_19 : decode cX2_isCompleteSum 19 = .ok (.aload_n 0, 1) := by decide +kernel
theorem dX2_isCompleteSum_20 : decode cX2_isCompleteSum 20 = .ok (.invokevirtual 26, 3) := by decide +kernel
theorem dX2_isCompleteSum_23 : decode cX2_isCompleteSum 23 = .ok (.aload_n 0, 1) := by decide +kernel
theorem dX2_isCompleteSum_24 : decode cX2_isCompleteSum 24 = .ok (.getfield 15, 3) := by decide +kernel
theorem dX2_isCompleteSum_27 : decode cX2_isCompleteSum 27 = .ok (.if_icmp .ne 24, 3) := by decide +kernel
theorem dX2_isCompleteSum_30 : decode cX2_isCompleteSum 30 = .ok (.aload_n 0, 1) := by decide +kernel
theorem dX2_isCompleteSum_31 : decode cX2_isCompleteSum 31 = .ok (.getfield 9, 3) := by decide +kernel
theorem dX2_isCompleteSum_34 : decode cX2_isCompleteSum 34 = .ok (.aload_n 0, 1) := by decide +kernel
theorem dX2_isCompleteSum_35 : decode cX2_isCompleteSum 35 = .ok (.getfield 15, 3) := by decide +kernel
theorem dX2_isCompleteSum_38 : decode cX2_isCompleteSum 38 = .ok (.iconst 1, 1) := by decide +kernel
theorem dX2_isCompleteSum_39 : decode cX2_isCompleteSum 39 = .ok (.isub, 1) := by decide +kernel
theorem dX2_isCompleteSum_40 : decode cX2_isCompleteSum 40 = .ok (.iaload, 1) := by decide +kernel
end
section
theorem dX2_isCompleteSum_41 : decode cX2_isCompleteSum 41 = .ok (.invokestatic 23, 3) := by decide +kernel
theorem dX2_isCompleteSum_44 : decode cX2_isCompleteSum 44 = .ok (.ifCond .eq 7, 3) := by decide +kernel
theorem dX2_isCompleteSum_47 : decode cX2_isCompleteSum 47 = .ok (.iconst 1, 1) := by decide +kernel
theorem dX2_isCompleteSum_48 : decode cX2_isCompleteSum 48 = .ok (.goto 4, 3) := by decide +kernel
theorem dX2_isCompleteSum_51 : decode cX2_isCompleteSum 51 = .ok (.iconst 0, 1) := by decide +kernel
theorem dX2_isCompleteSum_52 : decode cX2_isCompleteSum 52 = .ok (.ireturn, 1) := by decide +kernel
set_option maxRecDepth 20000 in
theorem ggX2_digitsBehind_X3_isDigit : GoodIn wsX2_digitsBehind wsX3_isDigit := goodIn_r _ [5] (by decide +kernel) (by decide +kernel)
set_option maxRecDepth 20000 in
theorem gX2_digitsBehind_X3_isDigit_n23 : GoodIn wsX2_digitsBehind (wsX3_isDigit) := ggX2_digitsBehind_X3_isDigit
theorem dX2_digitsBehind_0 : decode cX2_digitsBehind 0 = .ok (.iconst 0, 1) := by decide +kernel
theorem dX2_digitsBehind_1 : decode cX2_digitsBehind 1 = .ok (.istore_n 2, 1) := by decide +kernel
theorem dX2_digitsBehind_2 : decode cX2_digitsBehind 2 = .ok (.iload_n 1, 1) := by decide +kernel
theorem dX2_digitsBehind_3 : decode cX2_digitsBehind 3 = .ok (.iconst 1, 1) := by decide +kernel
theorem dX2_digitsBehind_4 : decode cX2_digitsBehind 4 = .ok (.iadd, 1) := by decide +kernel
theorem dX2_digitsBehind_5 : decode cX2_digitsBehind 5 = .ok (.istore_n 3, 1) := by decide +kernel
theorem dX2_digitsBehind_6 : decode cX2_digitsBehind 6 = .ok (.iload_n 3, 1) := by decide +kernel
theorem dX2_digitsBehind_7 : decode cX2_digitsBehind 7 = .ok (.aload_n 0, 1) := by decide +kernel
theorem dX2_digitsBehind_8 : decode cX2_digitsBehind 8 = .ok (.getfield 15, 3) := by decide +kernel
theorem dX2_digitsBehind_11 : decode cX2_digitsBehind 11 = .ok (.if_icmp .ge 30, 3) := by decide +kernel
theorem dX2_digitsBehind_14 : decode cX2_digitsBehind 14 = .ok (.iload_n 3, 1) := by decide +kernel
theorem dX2_digitsBehind_15 : decode cX2_digitsBehind 15 = .ok (.bipush 60, 2) := by decide +kernel
theorem dX2_digitsBehind_17 : decode cX2_digitsBehind 17 = .ok (.if_icmp .ge 24, 3) := by decide +kernel
theorem dX2_digitsBehind_20 : decode cX2_digitsBehind 20 = .ok (.aload_n 0, 1) := by decide +kernel
theorem dX2_digitsBehind_21 : decode cX2_digitsBehind 21 = .ok (.getfield 9, 3) := by decide +kernel
theorem dX2_digitsBehind_24 : decode cX2_digitsBehind 24 = .ok (.iload_n 3, 1) := by decide +kernel
theorem dX2_digitsBehind_25 : decode cX2_digitsBehind 25 = .ok (.iaload, 1) := by decide +kernel
theorem dX2_digitsBehind_26 : decode cX2_digitsBehind 26 = .ok (.invokestatic 23, 3) := by decide +kernel
theorem dX2_digitsBehind_29 : decode cX2_digitsBehind 29 = .ok (.ifCond .eq 12, 3) := by decide +kernel
theorem dX2_digitsBehind_32 : decode cX2_digitsBehind 32 = .ok (.iinc 2 1, 3) := by decide +kernel
theorem dX2_digitsBehind_35 : decode cX2_digitsBehind 35 = .ok (.iinc 3 1, 3) := by decide +kernel
theorem dX2_digitsBehind_38 : decode cX2_digitsBehind 38 = .ok (.goto (-32), 3) := by decide +kernel
theorem dX2_digitsBehind_41 : decode cX2_digitsBehind 41 = .ok (.iload_n 2, 1) := by decide +kernel
theorem dX2_digitsBehind_42 : decode cX2_digitsBehind 42 = .ok (.ireturn, 1) := by decide +kernel
set_option maxRecDepth 20000 in
theorem ggX3_init_X0_init : GoodIn wsX3_init wsX0_init := goodIn_r _ [18, 19, 2, 3, 20, 21, 22, 23, 24, 25, 26, 27, 43, 44, 45, 46, 47, 48, 49] (by decide +kernel) (by decide +kernel)
set_option maxRecDepth 20000 in
theorem gX3_init_X0_init : GoodIn wsX3_init (wsX0_init) := ggX3_init_X0_init
set_option maxRecDepth 20000 in
theorem ggX3_init_X1_init : GoodIn wsX3_init wsX1_init := goodIn_r _ [30, 31, 2, 3, 32, 33, 34, 35, 5, 6, 36, 17, 18, 19, 20, 21, 22, 23, 24, 25, 26, 27, 53, 54, 55, 43, 44, 45, 46, 47, 48, 49] (by decide +kernel) (by decide +kernel)
set_option maxRecDepth 20000 in
theorem gX3_init_X1_init : GoodIn wsX3_init (wsX1_init) := ggX3_init_X1_init
set_option maxRecDepth 20000 in
theorem ggX3_init_X2_init : GoodIn wsX3_init wsX2_init := goodIn_r _ [39, 40, 2, 3, 20, 41, 42, 56, 57] (by decide +kernel) (by decide +kernel)
set_option maxRecDepth 20000 in
theorem gX3_init_X2_init : GoodIn wsX3_init (wsX2_init) := ggX3_init_X2_init
theorem dX3_init_0 : decode cX3_init 0 = .ok (.aload_n 0, 1) := by decide +kernel
theorem dX3_init_1 : decode cX3_init 1 = .ok (.invokespecial 3, 3) := by decide +kernel
theorem dX3_init_4 : decode cX3_init 4 = .ok (.aload_n 0, 1) := by decide +kernel
theorem dX3_init_5 : decode cX3_init 5 = .ok (.new 9, 3) := by decide +kernel
theorem dX3_init_8 : decode cX3_init 8 = .ok (.dup, 1) := by decide +kernel
theorem dX3_init_9 : decode cX3_init 9 = .ok (.invokespecial 11, 3) := by decide +kernel
theorem dX3_init_12 : decode cX3_init 12 = .ok (.putfield 12, 3) := by decide +kernel
theorem dX3_init_15 : decode cX3_init 15 = .ok (.aload_n 0, 1) := by decide +kernel
theorem dX3_init_16 : decode cX3_init 16 = .ok (.new 16, 3) := by decide +kernel
theorem dX3_init_19 : decode cX3_init 19 = .ok (.dup, 1) := by decide +kernel
theorem dX3_init_20 : decode cX3_init 20 = .ok (.invokespecial 18, 3) := by decide +kernel
theorem dX3_init_23 : decode cX3_init 23 = .ok (.putfield 19, 3) := by decide +kernel
theorem dX3_init_26 : decode cX3_init 26 = .ok (.aload_n 0, 1) := by decide +kernel
theorem dX3_init_27 : decode cX3_init 27 = .ok (.new 23, 3) := by decide +kernel
theorem dX3_init_30 : decode cX3_init 30 = .ok (.dup, 1) := by decide +kernel
theorem dX3_init_31 : decode cX3_init 31 = .ok (.invokespecial 25, 3) := by decide +kernel
theorem dX3_init_34 : decode cX3_init 34 = .ok (.putfield 26, 3) := by decide +kernel
theorem dX3_init_37 : decode cX3_init 37 = .ok (.return_, 1) := by decide +kernel
set_option maxRecDepth 20000 in
theorem ggX3_move_X3_checkRod : GoodIn wsX3_move wsX3_checkRod := goodIn_ca (goodIn_r _ [8, 9, 10] (by decide +kernel) (by decide +kernel)) (goodIn_sub (fun _ h => List.mem_cons_of_mem _ (List.mem_append_left _ (List.mem_append_right _ h))) (by decide +kernel))
set_option maxRecDepth 20000 in
theorem gX3_move_X3_checkRod : GoodIn wsX3_move (va_wsS RX3 30 yX3_checkRod wsX3_checkRod) := goodIn_app (goodIn_of _ (by decide +kernel)) ggX3_move_X3_checkRod
set_option maxRecDepth 20000 in
theorem ggX3_move_X3_checkRange : GoodIn wsX3_move wsX3_checkRange := goodIn_ca (goodIn_r _ [13, 14, 15] (by decide +kernel) (by decide +kernel)) (goodIn_sub (fun _ h => List.mem_cons_of_mem _ (List.mem_append_right _ h)) (by decide +kernel))
set_option maxRecDepth 20000 in
theorem gX3_move_X3_checkRange : GoodIn wsX3_move (va_wsS RX3 34 yX3_checkRange wsX3_checkRange) := goodIn_app (goodIn_of _ (by decide +kernel)) ggX3_move_X3_checkRange
set_option maxRecDepth 20000 in
theorem ggX3_move_X0_movesBy : GoodIn wsX3_move wsX0_movesBy := goodIn_r _ [20, 21, 22, 23, 24, 25, 26, 27, 51, 52, 53, 54, 55, 56, 57] (by decide +kernel) (by decide +kernel)
set_option maxRecDepth 20000 in
theorem gX3_move_X0_movesBy : GoodIn wsX3_move (wsV RX3 38 RX0 yX0_movesBy wsX0_movesBy) := goodIn_app (goodIn_of _ (by decide +kernel)) ggX3_move_X0_movesBy
set_option maxRecDepth 20000 in
theorem ggX3_move_X1_keep : GoodIn wsX3_move wsX1_keep := goodIn_r _ [32, 33, 34, 35, 36, 37, 38, 19, 39, 21, 26, 27, 40, 41, 42, 43, 58, 59, 60, 51, 52, 53, 54, 55, 56, 57] (by decide +kernel) (by decide +kernel)
set_option maxRecDepth 20000 in
theorem gX3_move_X1_keep : GoodIn wsX3_move (wsV RX3 49 RX1 yX1_keep wsX1_keep) := goodIn_app (goodIn_of _ (by decide +kernel)) ggX3_move_X1_keep
set_option maxRecDepth 20000 in
theorem ggX3_move_X0_place : GoodIn wsX3_move wsX0_place := goodIn_r _ [47, 21, 26, 41, 51, 52, 53, 54, 55, 56, 57] (by decide +kernel) (by decide +kernel)
set_option maxRecDepth 20000 in
theorem gX3_move_X0_place : GoodIn wsX3_move (wsV RX3 53 RX0 yX0_place wsX0_place) := goodIn_app (goodIn_of _ (by decide +kernel)) ggX3_move_X0_place
theorem dX3_move_0 : decode cX3_move 0 = .ok (.iload_n 1, 1) := by decide +kernel
theorem dX3_move_1 : decode cX3_move 1 = .ok (.invokestatic 30, 3) := by decide +kernel
theorem dX3_move_4 : decode cX3_move 4 = .ok (.iload_n 2, 1) := by decide +kernel
theorem dX3_move_5 : decode cX3_move 5 = .ok (.iconst 0, 1) := by decide +kernel
theorem dX3_move_6 : decode cX3_move 6 = .ok (.iconst 2, 1) := by decide +kernel
theorem dX3_move_7 : decode cX3_move 7 = .ok (.invokestatic 34, 3) := by decide +kernel
theorem dX3_move_10 : decode cX3_move 10 = .ok (.iload_n 3, 1) := by decide +kernel
theorem dX3_move_11 : decode cX3_move 11 = .ok (.iconst 0, 1) := by decide +kernel
theorem dX3_move_12 : decode cX3_move 12 = .ok (.iconst 5, 1) := by decide +kernel
theorem dX3_move_13 : decode cX3_move 13 = .ok (.invokestatic 34, 3) := by decide +kernel
theorem dX3_move_16 : decode cX3_move 16 = .ok (.aload_n 0, 1) := by decide +kernel
theorem dX3_move_17 : decode cX3_move 17 = .ok (.getfield 12, 3) := by decide +kernel
theorem dX3_move_20 : decode cX3_move 20 = .ok (.iload_n 1, 1) := by decide +kernel
theorem dX3_move_21 : decode cX3_move 21 = .ok (.iload_n 2, 1) := by decide +kernel
theorem dX3_move_22 : decode cX3_move 22 = .ok (.iload_n 3, 1) := by decide +kernel
theorem dX3_move_23 : decode cX3_move 23 = .ok (.invokevirtual 38, 3) := by decide +kernel
theorem dX3_move_26 : decode cX3_move 26 = .ok (.istore 4, 2) := by decide +kernel
theorem dX3_move_28 : decode cX3_move 28 = .ok (.iload 4, 2) := by decide +kernel
theorem dX3_move_30 : decode cX3_move 30 = .ok (.iconst (-1), 1) := by decide +kernel
theorem dX3_move_31 : decode cX3_move 31 = .ok (.if_icmp .ne 13, 3) := by decide +kernel
theorem dX3_move_34 : decode cX3_move 34 = .ok (.new 42, 3) := by decide +kernel
theorem dX3_move_37 : decode cX3_move 37 = .ok (.dup, 1) := by decide +kernel
theorem dX3_move_38 : decode cX3_move 38 = .ok (.ldc 44, 2) := by decide +kernel
theorem dX3_move_40 : decode cX3_move 40 = .ok (.invokespecial 46, 3) := by decide +kernel
theorem dX3_move_43 : decode cX3_move 43 = .ok (.athrow, 1) := by decide +kernel
theorem dX3_move_44 : decode cX3_move 44 = .ok (.aload_n 0, 1) := by decide +kernel
theorem dX3_move_45 : decode cX3_move 45 = .ok (.getfield 19, 3) := by decide +kernel
theorem dX3_move_48 : decode cX3_move 48 = .ok (.aload_n 0, 1) := by decide +kernel
theorem dX3_move_49 : decode cX3_move 49 = .ok (.getfield 12, 3) := by decide +kernel
theorem dX3_move_52 : decode cX3_move 52 = .ok (.invokevirtual 49, 3) := by decide +kernel
theorem dX3_move_55 : decode cX3_move 55 = .ok (.aload_n 0, 1) := by decide +kernel
theorem dX3_move_56 : decode cX3_move 56 = .ok (.getfield 12, 3) := by decide +kernel
theorem dX3_move_59 : decode cX3_move 59 = .ok (.iload_n 1, 1) := by decide +kernel
theorem dX3_move_60 : decode cX3_move 60 = .ok (.iload_n 2, 1) := by decide +kernel
theorem dX3_move_61 : decode cX3_move 61 = .ok (.iload_n 3, 1) := by decide +kernel
theorem dX3_move_62 : decode cX3_move 62 = .ok (.iload 4, 2) := by decide +kernel
theorem dX3_move_64 : decode cX3_move 64 = .ok (.invokevirtual 53, 3) := by decide +kernel
theorem dX3_move_67 : decode cX3_move 67 = .ok (.iload 4, 2) := by decide +kernel
theorem dX3_move_69 : decode cX3_move 69 = .ok (.ireturn, 1) := by decide +kernel
set_option maxRecDepth 20000 in
theorem ggX3_stick_X3_checkRod : GoodIn wsX3_stick wsX3_checkRod := goodIn_ca (goodIn_r _ [7, 8, 9] (by decide +kernel) (by decide +kernel)) (goodIn_sub (fun _ h => List.mem_cons_of_mem _ (List.mem_append_left _ (List.mem_append_right _ h))) (by decide +kernel))
set_option maxRecDepth 20000 in
theorem gX3_stick_X3_checkRod : GoodIn wsX3_stick (va_wsS RX3 30 yX3_checkRod wsX3_checkRod) := goodIn_app (goodIn_of _ (by decide +kernel)) ggX3_stick_X3_checkRod
set_option maxRecDepth 20000 in
theorem ggX3_stick_X3_checkRange : GoodIn wsX3_stick wsX3_checkRange := goodIn_ca (goodIn_r _ [12, 13, 14] (by decide +kernel) (by decide +kernel)) (goodIn_sub (fun _ h => List.mem_cons_of_mem _ (List.mem_append_right _ h)) (by decide +kernel))
set_option maxRecDepth 20000 in
theorem gX3_stick_X3_checkRange : GoodIn wsX3_stick (va_wsS RX3 34 yX3_checkRange wsX3_checkRange) := goodIn_app (goodIn_of _ (by decide +kernel)) ggX3_stick_X3_checkRange
set_option maxRecDepth 20000 in
theorem ggX3_stick_X1_keep : GoodIn wsX3_stick wsX1_keep := goodIn_r _ [19, 20, 21, 22, 23, 24, 25, 26, 27, 28, 29, 30, 31, 32, 33, 34, 45, 46, 47, 38, 39, 40, 41, 42, 43, 44] (by decide +kernel) (by decide +kernel)
set_option maxRecDepth 20000 in
theorem gX3_stick_X1_keep : GoodIn wsX3_stick (wsV RX3 49 RX1 yX1_keep wsX1_keep) := goodIn_app (goodIn_of _ (by decide +kernel)) ggX3_stick_X1_keep
theorem dX3_stick_0 : decode cX3_stick 0 = .ok (.iload_n 1, 1) := by decide +kernel
theorem dX3_stick_1 : decode cX3_stick 1 = .ok (.invokestatic 30, 3) := by decide +kernel
theorem dX3_stick_4 : decode cX3_stick 4 = .ok (.iload_n 2, 1) := by decide +kernel
theorem dX3_stick_5 : decode cX3_stick 5 = .ok (.iconst 0, 1) := by decide +kernel
theorem dX3_stick_6 : decode cX3_stick 6 = .ok (.iconst 3, 1) := by decide +kernel
theorem dX3_stick_7 : decode cX3_stick 7 = .ok (.invokestatic 34, 3) := by decide +kernel
theorem dX3_stick_10 : decode cX3_stick 10 = .ok (.aload_n 0, 1) := by decide +kernel
theorem dX3_stick_11 : decode cX3_stick 11 = .ok (.getfield 19, 3) := by decide +kernel
theorem dX3_stick_14 : decode cX3_stick 14 = .ok (.aload_n 0, 1) := by decide +kernel
theorem dX3_stick_15 : decode cX3_stick 15 = .ok (.getfield 12, 3) := by decide +kernel
theorem dX3_stick_18 : decode cX3_stick 18 = .ok (.invokevirtual 49, 3) := by decide +kernel
theorem dX3_stick_21 : decode cX3_stick 21 = .ok (.aload_n 0, 1) := by decide +kernel
theorem dX3_stick_22 : decode cX3_stick 22 = .ok (.getfield 12, 3) := by decide +kernel
theorem dX3_stick_25 : decode cX3_stick 25 = .ok (.getfield 57, 3) := by decide +kernel
theorem dX3_stick_28 : decode cX3_stick 28 = .ok (.iload_n 1, 1) := by decide +kernel
theorem dX3_stick_29 : decode cX3_stick 29 = .ok (.iaload, 1) := by decide +kernel
theorem dX3_stick_30 : decode cX3_stick 30 = .ok (.istore_n 3, 1) := by decide +kernel
theorem dX3_stick_31 : decode cX3_stick 31 = .ok (.aload_n 0, 1) := by decide +kernel
theorem dX3_stick_32 : decode cX3_stick 32 = .ok (.getfield 12, 3) := by decide +kernel
theorem dX3_stick_35 : decode cX3_stick 35 = .ok (.getfield 57, 3) := by decide +kernel
theorem dX3_stick_38 : decode cX3_stick 38 = .ok (.iload_n 1, 1) := by decide +kernel
theorem dX3_stick_39 : decode cX3_stick 39 = .ok (.iload_n 2, 1) := by decide +kernel
theorem dX3_stick_40 : decode cX3_stick 40 = .ok (.iastore, 1) := by decide +kernel
theorem dX3_stick_41 : decode cX3_stick 41 = .ok (.iload_n 3, 1) := by decide +kernel
theorem dX3_stick_42 : decode cX3_stick 42 = .ok (.ireturn, 1) := by decide +kernel
set_option maxRecDepth 20000 in
theorem ggX3_set_X3_checkRange : GoodIn wsX3_set wsX3_checkRange := goodIn_ca (goodIn_r _ [7, 8, 9] (by decide +kernel) (by decide +kernel)) (goodIn_sub (fun _ h => List.mem_cons_of_mem _ (List.mem_append_right _ h)) (by decide +kernel))
set_option maxRecDepth 20000 in
theorem gX3_set_X3_checkRange : GoodIn wsX3_set (va_wsS RX3 34 yX3_checkRange wsX3_checkRange) := goodIn_app (goodIn_of _ (by decide +kernel)) ggX3_set_X3_checkRange
set_option maxRecDepth 20000 in
theorem ggX3_set_X1_keep : GoodIn wsX3_set wsX1_keep := goodIn_r _ [14, 15, 16, 17, 18, 19, 20, 21, 22, 23, 24, 25, 26, 27, 28, 29, 40, 41, 42, 33, 34, 35, 36, 37, 38, 39] (by decide +kernel) (by decide +kernel)
set_option maxRecDepth 20000 in
theorem gX3_set_X1_keep : GoodIn wsX3_set (wsV RX3 49 RX1 yX1_keep wsX1_keep) := goodIn_app (goodIn_of _ (by decide +kernel)) ggX3_set_X1_keep
theorem dX3_set_0 : decode cX3_set 0 = .ok (.iload_n 1, 1) := by decide +kernel
theorem dX3_set_1 : decode cX3_set 1 = .ok (.iconst 0, 1) := by decide +kernel
theorem dX3_set_2 : decode cX3_set 2 = .ok (.bipush 9, 2) := by decide +kernel
theorem dX3_set_4 : decode cX3_set 4 = .ok (.invokestatic 34, 3) := by decide +kernel
theorem dX3_set_7 : decode cX3_set 7 = .ok (.aload_n 0, 1) := by decide +kernel
theorem dX3_set_8 : decode cX3_set 8 = .ok (.getfield 19, 3) := by decide +kernel
theorem dX3_set_11 : decode cX3_set 11 = .ok (.aload_n 0, 1) := by decide +kernel
theorem dX3_set_12 : decode cX3_set 12 = .ok (.getfield 12, 3) := by decide +kernel
theorem dX3_set_15 : decode cX3_set 15 = .ok (.invokevirtual 49, 3) := by decide +kernel
theorem dX3_set_18 : decode cX3_set 18 = .ok (.aload_n 0, 1) := by decide +kernel
theorem dX3_set_19 : decode cX3_set 19 = .ok (.getfield 12, 3) := by decide +kernel
theorem dX3_set_22 : decode cX3_set 22 = .ok (.getfield 61, 3) := by decide +kernel
theorem dX3_set_25 : decode cX3_set 25 = .ok (.istore_n 2, 1) := by decide +kernel
theorem dX3_set_26 : decode cX3_set 26 = .ok (.aload_n 0, 1) := by decide +kernel
theorem dX3_set_27 : decode cX3_set 27 = .ok (.getfield 12, 3) := by decide +kernel
theorem dX3_set_30 : decode cX3_set 30 = .ok (.iload_n 1, 1) := by decide +kernel
theorem dX3_set_31 : decode cX3_set 31 = .ok (.putfield 61, 3) := by decide +kernel
theorem dX3_set_34 : decode cX3_set 34 = .ok (.iload_n 2, 1) := by decide +kernel
theorem dX3_set_35 : decode cX3_set 35 = .ok (.ireturn, 1) := by decide +kernel
set_option maxRecDepth 20000 in
theorem ggX3_add_X3_checkRod : GoodIn wsX3_add wsX3_checkRod := goodIn_ca (goodIn_r _ [4, 5, 6] (by decide +kernel) (by decide +kernel)) (goodIn_sub (fun _ h => List.mem_cons_of_mem _ (List.mem_append_left _ (List.mem_append_left _ (List.mem_append_right _ h)))) (by decide +kernel))
set_option maxRecDepth 20000 in
theorem gX3_add_X3_checkRod : GoodIn wsX3_add (va_wsS RX3 30 yX3_checkRod wsX3_checkRod) := goodIn_app (goodIn_of _ (by decide +kernel)) ggX3_add_X3_checkRod
set_option maxRecDepth 20000 in
theorem ggX3_add_X3_checkRange : GoodIn wsX3_add wsX3_checkRange := goodIn_ca (goodIn_r _ [9, 10, 11] (by decide +kernel) (by decide +kernel)) (goodIn_sub (fun _ h => List.mem_cons_of_mem _ (List.mem_append_left _ (List.mem_append_right _ h))) (by decide +kernel))
set_option maxRecDepth 20000 in
theorem gX3_add_X3_checkRange : GoodIn wsX3_add (va_wsS RX3 34 yX3_checkRange wsX3_checkRange) := goodIn_app (goodIn_of _ (by decide +kernel)) ggX3_add_X3_checkRange
set_option maxRecDepth 20000 in
theorem ggX3_add_X3_changeOrThrow : GoodIn wsX3_add wsX3_changeOrThrow := goodIn_ca (goodIn_r _ [15, 16, 17, 18, 19, 20, 21, 22, 23, 24, 25, 26, 27, 28, 29, 30, 31, 32, 33, 34, 35, 36, 37, 38, 39, 40, 41, 42, 43, 44, 45, 46, 47, 48, 49, 50, 51, 52, 53, 54, 55, 56, 57, 58, 59, 60, 61, 62, 63, 64, 65, 66, 67, 68, 69, 70, 71, 72, 73, 74, 75, 76, 77, 78, 79, 80, 81, 82, 83, 84] (by decide +kernel) (by decide +kernel)) (goodIn_sub (fun _ h => List.mem_cons_of_mem _ (List.mem_append_right _ h)) (by decide +kernel))
set_option maxRecDepth 20000 in
theorem gX3_add_X3_changeOrThrow : GoodIn wsX3_add (wsV RX3 65 RX3 yX3_changeOrThrow wsX3_changeOrThrow) := goodIn_app (goodIn_of _ (by decide +kernel)) ggX3_add_X3_changeOrThrow
theorem dX3_add_0 : decode cX3_add 0 = .ok (.iload_n 1, 1) := by decide +kernel
theorem dX3_add_1 : decode cX3_add 1 = .ok (.invokestatic 30, 3) := by decide +kernel
theorem dX3_add_4 : decode cX3_add 4 = .ok (.iload_n 2, 1) := by decide +kernel
theorem dX3_add_5 : decode cX3_add 5 = .ok (.iconst 1, 1) := by decide +kernel
theorem dX3_add_6 : decode cX3_add 6 = .ok (.bipush 9, 2) := by decide +kernel
theorem dX3_add_8 : decode cX3_add 8 = .ok (.invokestatic 34, 3) := by decide +kernel
theorem dX3_add_11 : decode cX3_add 11 = .ok (.aload_n 0, 1) := by decide +kernel
theorem dX3_add_12 : decode cX3_add 12 = .ok (.iload_n 1, 1) := by decide +kernel
theorem dX3_add_13 : decode cX3_add 13 = .ok (.iload_n 2, 1) := by decide +kernel
theorem dX3_add_14 : decode cX3_add 14 = .ok (.invokevirtual 65, 3) := by decide +kernel
theorem dX3_add_17 : decode cX3_add 17 = .ok (.ireturn, 1) := by decide +kernel
set_option maxRecDepth 20000 in
theorem ggX3_less_X3_checkRod : GoodIn wsX3_less wsX3_checkRod := goodIn_ca (goodIn_r _ [4, 5, 6] (by decide +kernel) (by decide +kernel)) (goodIn_sub (fun _ h => List.mem_cons_of_mem _ (List.mem_append_left _ (List.mem_append_left _ (List.mem_append_right _ h)))) (by decide +kernel))
set_option maxRecDepth 20000 in
theorem gX3_less_X3_checkRod : GoodIn wsX3_less (va_wsS RX3 30 yX3_checkRod wsX3_checkRod) := goodIn_app (goodIn_of _ (by decide +kernel)) ggX3_less_X3_checkRod
set_option maxRecDepth 20000 in
theorem ggX3_less_X3_checkRange : GoodIn wsX3_less wsX3_checkRange := goodIn_ca (goodIn_r _ [9, 10, 11] (by decide +kernel) (by decide +kernel)) (goodIn_sub (fun _ h => List.mem_cons_of_mem _ (List.mem_append_left _ (List.mem_append_right _ h))) (by decide +kernel))
set_option maxRecDepth 20000 in
theorem gX3_less_X3_checkRange : GoodIn wsX3_less (va_wsS RX3 34 yX3_checkRange wsX3_checkRange) := goodIn_app (goodIn_of _ (by decide +kernel)) ggX3_less_X3_checkRange
set_option maxRecDepth 20000 in
theorem ggX3_less_X3_changeOrThrow : GoodIn wsX3_less wsX3_changeOrThrow := goodIn_ca (goodIn_r _ [15, 16, 17, 18, 19, 20, 21, 22, 23, 24, 25, 26, 27, 28, 29, 30, 31, 32, 33, 34, 35, 36, 37, 38, 39, 40, 41, 42, 43, 44, 45, 46, 47, 48, 49, 50, 51, 52, 53, 54, 55, 56, 57, 58, 59, 60, 61, 62, 63, 64, 65, 66, 67, 68, 69, 70, 71, 72, 73, 74, 75, 76, 77, 78, 79, 80, 81, 82, 83, 84] (by decide +kernel) (by decide +kernel)) (goodIn_sub (fun _ h => List.mem_cons_of_mem _ (List.mem_append_right _ h)) (by decide +kernel))
set_option maxRecDepth 20000 in
theorem gX3_less_X3_changeOrThrow : GoodIn wsX3_less (wsV RX3 65 RX3 yX3_changeOrThrow wsX3_changeOrThrow) := goodIn_app (goodIn_of _ (by decide +kernel)) ggX3_less_X3_changeOrThrow
theorem dX3_less_0 : decode cX3_less 0 = .ok (.iload_n 1, 1) := by decide +kernel
theorem dX3_less_1 : decode cX3_less 1 = .ok (.invokestatic 30, 3) := by decide +kernel
theorem dX3_less_4 : decode cX3_less 4 = .ok (.iload_n 2, 1) := by decide +kernel
theorem dX3_less_5 : decode cX3_less 5 = .ok (.iconst 1, 1) := by decide +kernel
theorem dX3_less_6 : decode cX3_less 6 = .ok (.bipush 9, 2) := by decide +kernel
theorem dX3_less_8 : decode cX3_less 8 = .ok (.invokestatic 34, 3) := by decide +kernel
theorem dX3_less_11 : decode cX3_less 11 = .ok (.aload_n 0, 1) := by decide +kernel
theorem dX3_less_12 : decode cX3_less 12 = .ok (.iload_n 1, 1) := by decide +kernel
theorem dX3_less_13 : decode cX3_less 13 = .ok (.iload_n 2, 1) := by decide +kernel
theorem dX3_less_14 : decode cX3_less 14 = .ok (.ineg, 1) := by decide +kernel
theorem dX3_less_15 : decode cX3_less 15 = .ok (.invokevirtual 65, 3) := by decide +kernel
theorem dX3_less_18 : decode cX3_less 18 = .ok (.ireturn, 1) := by decide +kernel
set_option maxRecDepth 20000 in
theorem ggX3_pay_X3_checkRod : GoodIn wsX3_pay wsX3_checkRod := goodIn_ca (goodIn_r _ [9, 10, 11] (by decide +kernel) (by decide +kernel)) (goodIn_sub (fun _ h => List.mem_cons_of_mem _ (List.mem_append_right _ h)) (by decide +kernel))
set_option maxRecDepth 20000 in
theorem gX3_pay_X3_checkRod : GoodIn wsX3_pay (va_wsS RX3 30 yX3_checkRod wsX3_checkRod) := goodIn_app (goodIn_of _ (by decide +kernel)) ggX3_pay_X3_checkRod
set_option maxRecDepth 20000 in
theorem ggX3_pay_X0_change : GoodIn wsX3_pay wsX0_change := goodIn_r _ [16, 17, 18, 19, 15, 20, 21, 22, 23, 24, 25, 26, 27, 28, 29, 30, 31, 32, 33, 34, 35, 36, 37, 38, 39, 40, 41, 42, 43, 44, 45, 46, 47, 48, 49, 50, 51, 72, 73, 74, 75, 76, 77, 78] (by decide +kernel) (by decide +kernel)
set_option maxRecDepth 20000 in
theorem gX3_pay_X0_change : GoodIn wsX3_pay (wsV RX3 72 RX0 yX0_change wsX0_change) := goodIn_app (goodIn_of _ (by decide +kernel)) ggX3_pay_X0_change
set_option maxRecDepth 20000 in
theorem ggX3_pay_X1_keep : GoodIn wsX3_pay wsX1_keep := goodIn_r _ [56, 57, 58, 59, 60, 61, 62, 15, 63, 21, 22, 35, 49, 40, 51, 50, 79, 80, 81, 72, 73, 74, 75, 76, 77, 78] (by decide +kernel) (by decide +kernel)
set_option maxRecDepth 20000 in
theorem gX3_pay_X1_keep : GoodIn wsX3_pay (wsV RX3 49 RX1 yX1_keep wsX1_keep) := goodIn_app (goodIn_of _ (by decide +kernel)) ggX3_pay_X1_keep
set_option maxRecDepth 20000 in
theorem ggX3_pay_X0_payIfPossible : GoodIn wsX3_pay wsX0_payIfPossible := goodIn_r _ [67, 49, 68, 13, 14, 15, 16, 17, 18, 19, 20, 21, 22, 23, 24, 25, 26, 27, 28, 29, 30, 31, 32, 33, 34, 35, 36, 37, 38, 39, 40, 41, 42, 43, 44, 45, 46, 47, 48, 50, 51, 72, 73, 74, 75, 76, 77, 78] (by decide +kernel) (by decide +kernel)
set_option maxRecDepth 20000 in
theorem gX3_pay_X0_payIfPossible : GoodIn wsX3_pay (wsV RX3 78 RX0 yX0_payIfPossible wsX0_payIfPossible) := goodIn_app (goodIn_of _ (by decide +kernel)) ggX3_pay_X0_payIfPossible
theorem dX3_pay_0 : decode cX3_pay 0 = .ok (.iload_n 1, 1) := by decide +kernel
theorem dX3_pay_1 : decode cX3_pay 1 = .ok (.invokestatic 30, 3) := by decide +kernel
theorem dX3_pay_4 : decode cX3_pay 4 = .ok (.aload_n 0, 1) := by decide +kernel
theorem dX3_pay_5 : decode cX3_pay 5 = .ok (.getfield 12, 3) := by decide +kernel
theorem dX3_pay_8 : decode cX3_pay 8 = .ok (.iload_n 1, 1) := by decide +kernel
theorem dX3_pay_9 : decode cX3_pay 9 = .ok (.aload_n 0, 1) := by decide +kernel
theorem dX3_pay_10 : decode cX3_pay 10 = .ok (.getfield 12, 3) := by decide +kernel
theorem dX3_pay_13 : decode cX3_pay 13 = .ok (.getfield 69, 3) := by decide +kernel
theorem dX3_pay_16 : decode cX3_pay 16 = .ok (.iload_n 1, 1) := by decide +kernel
theorem dX3_pay_17 : decode cX3_pay 17 = .ok (.iaload, 1) := by decide +kernel
theorem dX3_pay_18 : decode cX3_pay 18 = .ok (.iconst 0, 1) := by decide +kernel
theorem dX3_pay_19 : decode cX3_pay 19 = .ok (.invokevirtual 72, 3) := by decide +kernel
theorem dX3_pay_22 : decode cX3_pay 22 = .ok (.iconst (-1), 1) := by decide +kernel
theorem dX3_pay_23 : decode cX3_pay 23 = .ok (.if_icmp .ne 13, 3) := by decide +kernel
theorem dX3_pay_26 : decode cX3_pay 26 = .ok (.new 42, 3) := by decide +kernel
theorem dX3_pay_29 : decode cX3_pay 29 = .ok (.dup, 1) := by decide +kernel
theorem dX3_pay_30 : decode cX3_pay 30 = .ok (.ldc 76, 2) := by decide +kernel
theorem dX3_pay_32 : decode cX3_pay 32 = .ok (.invokespecial 46, 3) := by decide +kernel
theorem dX3_pay_35 : decode cX3_pay 35 = .ok (.athrow, 1) := by decide +kernel
theorem dX3_pay_36 : decode cX3_pay 36 = .ok (.aload_n 0, 1) := by decide +kernel
theorem dX3_pay_37 : decode cX3_pay 37 = .ok (.getfield 19, 3) := by decide +kernel
theorem dX3_pay_40 : decode cX3_pay 40 = .ok (.aload_n 0, 1) := by decide +kernel
theorem dX3_pay_41 : decode cX3_pay 41 = .ok (.getfield 12, 3) := by decide +kernel
theorem dX3_pay_44 : decode cX3_pay 44 = .ok (.invokevirtual 49, 3) := by decide +kernel
theorem dX3_pay_47 : decode cX3_pay 47 = .ok (.aload_n 0, 1) := by decide +kernel
theorem dX3_pay_48 : decode cX3_pay 48 = .ok (.getfield 12, 3) := by decide +kernel
theorem dX3_pay_51 : decode cX3_pay 51 = .ok (.iload_n 1, 1) := by decide +kernel
theorem dX3_pay_52 : decode cX3_pay 52 = .ok (.invokevirtual 78, 3) := by decide +kernel
theorem dX3_pay_55 : decode cX3_pay 55 = .ok (.ireturn, 1) := by decide +kernel
set_option maxRecDepth 20000 in
theorem ggX3_tidy_X1_keep : GoodIn wsX3_tidy wsX1_keep := goodIn_r _ [7, 8, 9, 10, 11, 12, 13, 14, 15, 16, 17, 18, 19, 20, 21, 22, 66, 67, 68, 69, 70, 71, 72, 73, 74, 75] (by decide +kernel) (by decide +kernel)
set_option maxRecDepth 20000 in
theorem gX3_tidy_X1_keep : GoodIn wsX3_tidy (wsV RX3 49 RX1 yX1_keep wsX1_keep) := goodIn_app (goodIn_of _ (by decide +kernel)) ggX3_tidy_X1_keep
set_option maxRecDepth 20000 in
theorem ggX3_tidy_X0_payIfPossible : GoodIn wsX3_tidy wsX0_payIfPossible := goodIn_r _ [26, 19, 27, 28, 29, 14, 30, 31, 32, 33, 34, 16, 17, 35, 36, 37, 38, 39, 40, 41, 42, 43, 44, 45, 46, 18, 47, 48, 49, 50, 20, 51, 52, 53, 54, 55, 56, 57, 58, 22, 21, 69, 70, 71, 72, 73, 74, 75] (by decide +kernel) (by decide +kernel)
set_option maxRecDepth 20000 in
theorem gX3_tidy_X0_payIfPossible : GoodIn wsX3_tidy (wsV RX3 78 RX0 yX0_payIfPossible wsX0_payIfPossible) := goodIn_app (goodIn_of _ (by decide +kernel)) ggX3_tidy_X0_payIfPossible
set_option maxRecDepth 20000 in
theorem ggX3_tidy_X0_orderIfPossible : GoodIn wsX3_tidy wsX0_orderIfPossible := goodIn_r _ [62, 31, 32, 33, 14, 34, 16, 17, 51, 52, 53, 54, 35, 36, 37, 38, 39, 40, 41, 42, 43, 44, 45, 46, 18, 47, 48, 49, 50, 20, 55, 56, 57, 58, 19, 22, 21, 69, 70, 71, 72, 73, 74, 75] (by decide +kernel) (by decide +kernel)
set_option maxRecDepth 20000 in
theorem gX3_tidy_X0_orderIfPossible : GoodIn wsX3_tidy (wsV RX3 82 RX0 yX0_orderIfPossible wsX0_orderIfPossible) := goodIn_app (goodIn_of _ (by decide +kernel)) ggX3_tidy_X0_orderIfPossible
theorem dX3_tidy_0 : decode cX3_tidy 0 = .ok (.aload_n 0, 1) := by decide +kernel
theorem dX3_tidy_1 : decode cX3_tidy 1 = .ok (.getfield 19, 3) := by decide +kernel
theorem dX3_tidy_4 : decode cX3_tidy 4 = .ok (.aload_n 0, 1) := by decide +kernel
theorem dX3_tidy_5 : decode cX3_tidy 5 = .ok (.getfield 12, 3) := by decide +kernel
theorem dX3_tidy_8 : decode cX3_tidy 8 = .ok (.invokevirtual 49, 3) := by decide +kernel
theorem dX3_tidy_11 : decode cX3_tidy 11 = .ok (.iconst 0, 1) := by decide +kernel
theorem dX3_tidy_12 : decode cX3_tidy 12 = .ok (.istore_n 1, 1) := by decide +kernel
theorem dX3_tidy_13 : decode cX3_tidy 13 = .ok (.iconst 0, 1) := by decide +kernel
theorem dX3_tidy_14 : decode cX3_tidy 14 = .ok (.istore_n 2, 1) := by decide +kernel
theorem dX3_tidy_15 : decode cX3_tidy 15 = .ok (.iload_n 2, 1) := by decide +kernel
theorem dX3_tidy_16 : decode cX3_tidy 16 = .ok (.bipush 9, 2) := by decide +kernel
theorem dX3_tidy_18 : decode cX3_tidy 18 = .ok (.if_icmp .ge 31, 3) := by decide +kernel
theorem dX3_tidy_21 : decode cX3_tidy 21 = .ok (.iload_n 1, 1) := by decide +kernel
theorem dX3_tidy_22 : decode cX3_tidy 22 = .ok (.aload_n 0, 1) := by decide +kernel
theorem dX3_tidy_23 : decode cX3_tidy 23 = .ok (.getfield 12, 3) := by decide +kernel
theorem dX3_tidy_26 : decode cX3_tidy 26 = .ok (.iload_n 2, 1) := by decide +kernel
theorem dX3_tidy_27 : decode cX3_tidy 27 = .ok (.invokevirtual 78, 3) := by decide +kernel
theorem dX3_tidy_30 : decode cX3_tidy 30 = .ok (.iadd, 1) := by decide +kernel
theorem dX3_tidy_31 : decode cX3_tidy 31 = .ok (.istore_n 1, 1) := by decide +kernel
theorem dX3_tidy_32 : decode cX3_tidy 32 = .ok (.iload_n 1, 1) := by decide +kernel
theorem dX3_tidy_33 : decode cX3_tidy 33 = .ok (.aload_n 0, 1) := by decide +kernel
theorem dX3_tidy_34 : decode cX3_tidy 34 = .ok (.getfield 12, 3) := by decide +kernel
theorem dX3_tidy_37 : decode cX3_tidy 37 = .ok (.iload_n 2, 1) := by decide +kernel
theorem dX3_tidy_38 : decode cX3_tidy 38 = .ok (.invokevirtual 82, 3) := by decide +kernel
theorem dX3_tidy_41 : decode cX3_tidy 41 = .ok (.iadd, 1) := by decide +kernel
theorem dX3_tidy_42 : decode cX3_tidy 42 = .ok (.istore_n 1, 1) := by decide +kernel
theorem dX3_tidy_43 : decode cX3_tidy 43 = .ok (.iinc 2 1, 3) := by decide +kernel
theorem dX3_tidy_46 : decode cX3_tidy 46 = .ok (.goto (-31), 3) := by decide +kernel
theorem dX3_tidy_49 : decode cX3_tidy 49 = .ok (.iload_n 1, 1) := by decide +kernel
theorem dX3_tidy_50 : decode cX3_tidy 50 = .ok (.ireturn, 1) := by decide +kernel
set_option maxRecDepth 20000 in
theorem ggX3_append_X3_checkRange : GoodIn wsX3_append wsX3_checkRange := goodIn_ca (goodIn_r _ [9, 10, 11] (by decide +kernel) (by decide +kernel)) (goodIn_sub (fun _ h => List.mem_cons_of_mem _ (List.mem_append_right _ h)) (by decide +kernel))
set_option maxRecDepth 20000 in
theorem gX3_append_X3_checkRange : GoodIn wsX3_append (va_wsS RX3 34 yX3_checkRange wsX3_checkRange) := goodIn_app (goodIn_of _ (by decide +kernel)) ggX3_append_X3_checkRange
theorem dX3_append_0 : decode cX3_append 0 = .ok (.iload_n 1, 1) := by decide +kernel
theorem dX3_append_1 : decode cX3_append 1 = .ok (.bipush 33, 2) := by decide +kernel
theorem dX3_append_3 : decode cX3_append 3 = .ok (.bipush 126, 2) := by decide +kernel
theorem dX3_append_5 : decode cX3_append 5 = .ok (.invokestatic 34, 3) := by decide +kernel
theorem dX3_append_8 : decode cX3_append 8 = .ok (.aload_n 0, 1) := by decide +kernel
theorem dX3_append_9 : decode cX3_append 9 = .ok (.getfield 26, 3) := by decide +kernel
theorem dX3_append_12 : decode cX3_append 12 = .ok (.getfield 85, 3) := by decide +kernel
theorem dX3_append_15 : decode cX3_append 15 = .ok (.bipush 60, 2) := by decide +kernel
theorem dX3_append_17 : decode cX3_append 17 = .ok (.if_icmp .lt 13, 3) := by decide +kernel
theorem dX3_append_20 : decode cX3_append 20 = .ok (.new 42, 3) := by decide +kernel
theorem dX3_append_23 : decode cX3_append 23 = .ok (.dup, 1) := by decide +kernel
theorem dX3_append_24 : decode cX3_append 24 = .ok (.ldc 88, 2) := by decide +kernel
theorem dX3_append_26 : decode cX3_append 26 = .ok (.invokespecial 46, 3) := by decide +kernel
theorem dX3_append_29 : decode cX3_append 29 = .ok (.athrow, 1) := by decide +kernel
theorem dX3_append_30 : decode cX3_append 30 = .ok (.aload_n 0, 1) := by decide +kernel
theorem dX3_append_31 : decode cX3_append 31 = .ok (.getfield 26, 3) := by decide +kernel
theorem dX3_append_34 : decode cX3_append 34 = .ok (.getfield 90, 3) := by decide +kernel
theorem dX3_append_37 : decode cX3_append 37 = .ok (.aload_n 0, 1) := by decide +kernel
theorem dX3_append_38 : decode cX3_append 38 = .ok (.getfield 26, 3) := by decide +kernel
theorem dX3_append_41 : decode cX3_append 41 = .ok (.getfield 85, 3) := by decide +kernel
theorem dX3_append_44 : decode cX3_append 44 = .ok (.iload_n 1, 1) := by decide +kernel
theorem dX3_append_45 : decode cX3_append 45 = .ok (.iastore, 1) := by decide +kernel
theorem dX3_append_46 : decode cX3_append 46 = .ok (.aload_n 0, 1) := by decide +kernel
theorem dX3_append_47 : decode cX3_append 47 = .ok (.getfield 26, 3) := by decide +kernel
theorem dX3_append_50 : decode cX3_append 50 = .ok (.dup, 1) := by decide +kernel
theorem dX3_append_51 : decode cX3_append 51 = .ok (.getfield 85, 3) := by decide +kernel
theorem dX3_append_54 : decode cX3_append 54 = .ok (.iconst 1, 1) := by decide +kernel
theorem dX3_append_55 : decode cX3_append 55 = .ok (.iadd, 1) := by decide +kernel
theorem dX3_append_56 : decode cX3_append 56 = .ok (.putfield 85, 3) := by decide +kernel
theorem dX3_append_59 : decode cX3_append 59 = .ok (.aload_n 0, 1) := by decide +kernel
theorem dX3_append_60 : decode cX3_append 60 = .ok (.getfield 26, 3) := by decide +kernel
theorem dX3_append_63 : decode cX3_append 63 = .ok (.getfield 85, 3) := by decide +kernel
theorem dX3_append_66 : decode cX3_append 66 = .ok (.ireturn, 1) := by decide +kernel
theorem dX3_clearBuffer_0 : decode cX3_clearBuffer 0 = .ok (.aload_n 0, 1) := by decide +kernel
theorem dX3_clearBuffer_1 : decode cX3_clearBuffer 1 = .ok (.getfield 26, 3) := by decide +kernel
theorem dX3_clearBuffer_4 : decode cX3_clearBuffer 4 = .ok (.getfield 85, 3) := by decide +kernel
theorem dX3_clearBuffer_7 : decode cX3_clearBuffer 7 = .ok (.istore_n 1, 1) := by decide +kernel
theorem dX3_clearBuffer_8 : decode cX3_clearBuffer 8 = .ok (.aload_n 0, 1) := by decide +kernel
theorem dX3_clearBuffer_9 : decode cX3_clearBuffer 9 = .ok (.getfield 26, 3) := by decide +kernel
theorem dX3_clearBuffer_12 : decode cX3_clearBuffer 12 = .ok (.iconst 0, 1) := by decide +kernel
theorem dX3_clearBuffer_13 : decode cX3_clearBuffer 13 = .ok (.putfield 85, 3) := by decide +kernel
theorem dX3_clearBuffer_16 : decode cX3_clearBuffer 16 = .ok (.iload_n 1, 1) := by decide +kernel
theorem dX3_clearBuffer_17 : decode cX3_clearBuffer 17 = .ok (.ireturn, 1) := by decide +kernel
set_option maxRecDepth 20000 in
theorem ggX3_firstError_X2_firstWrong : GoodIn wsX3_firstError wsX2_firstWrong := goodIn_r _ [6, 7, 8, 9, 10, 11, 12, 13, 17, 18] (by decide +kernel) (by decide +kernel)
set_option maxRecDepth 20000 in
theorem gX3_firstError_X2_firstWrong : GoodIn wsX3_firstError (wsV RX3 93 RX2 yX2_firstWrong wsX2_firstWrong) := goodIn_app (goodIn_of _ (by decide +kernel)) ggX3_firstError_X2_firstWrong
theorem dX3_firstError_0 : decode cX3_firstError 0 = .ok (.aload_n 0, 1) := by decide +kernel
theorem dX3_firstError_1 : decode cX3_firstError 1 = .ok (.getfield 26, 3) := by decide +kernel
theorem dX3_firstError_4 : decode cX3_firstError 4 = .ok (.invokevirtual 93, 3) := by decide +kernel
theorem dX3_firstError_7 : decode cX3_firstError 7 = .ok (.ireturn, 1) := by decide +kernel
set_option maxRecDepth 20000 in
theorem ggX3_reckon_X2_isCompleteSum : GoodIn wsX3_reckon wsX2_isCompleteSum := goodIn_r _ [12, 13, 14, 15, 16, 17, 11, 18, 19, 20, 21, 22, 23, 88, 89] (by decide +kernel) (by decide +kernel)
set_option maxRecDepth 20000 in
theorem gX3_reckon_X2_isCompleteSum : GoodIn wsX3_reckon (wsV RX3 97 RX2 yX2_isCompleteSum wsX2_isCompleteSum) := goodIn_app (goodIn_of _ (by decide +kernel)) ggX3_reckon_X2_isCompleteSum
set_option maxRecDepth 20000 in
theorem ggX3_reckon_X1_keep : GoodIn wsX3_reckon wsX1_keep := goodIn_r _ [28, 29, 30, 31, 32, 33, 34, 35, 36, 37, 38, 39, 40, 41, 42, 43, 90, 91, 92, 93, 94, 95, 96, 97, 98, 99] (by decide +kernel) (by decide +kernel)
set_option maxRecDepth 20000 in
theorem gX3_reckon_X1_keep : GoodIn wsX3_reckon (wsV RX3 49 RX1 yX1_keep wsX1_keep) := goodIn_app (goodIn_of _ (by decide +kernel)) ggX3_reckon_X1_keep
set_option maxRecDepth 20000 in
theorem ggX3_reckon_X3_isSign : GoodIn wsX3_reckon wsX3_isSign := goodIn_r _ [21] (by decide +kernel) (by decide +kernel)
set_option maxRecDepth 20000 in
theorem gX3_reckon_X3_isSign : GoodIn wsX3_reckon (va_wsS RX3 106 yX3_isSign wsX3_isSign) := goodIn_app (goodIn_of _ (by decide +kernel)) ggX3_reckon_X3_isSign
set_option maxRecDepth 20000 in
theorem ggX3_reckon_X2_digitsBehind : GoodIn wsX3_reckon wsX2_digitsBehind := goodIn_r _ [48, 13, 14, 22, 20, 23, 88, 89] (by decide +kernel) (by decide +kernel)
set_option maxRecDepth 20000 in
theorem gX3_reckon_X2_digitsBehind : GoodIn wsX3_reckon (wsV RX3 110 RX2 yX2_digitsBehind wsX2_digitsBehind) := goodIn_app (goodIn_of _ (by decide +kernel)) ggX3_reckon_X2_digitsBehind
set_option maxRecDepth 20000 in
theorem ggX3_reckon_X3_reckonTerm : GoodIn wsX3_reckon wsX3_reckonTerm := goodIn_r _ [52, 3, 7, 5, 53, 54, 55, 35, 56, 57, 58, 59, 60, 37, 38, 61, 62, 63, 64, 65, 66, 67, 68, 69, 70, 71, 72, 39, 73, 74, 75, 76, 41, 77, 78, 79, 80, 81, 82, 83, 84, 40, 43, 42, 85, 86, 87, 88, 89, 93, 94, 95, 96, 97, 98, 99] (by decide +kernel) (by decide +kernel)
set_option maxRecDepth 20000 in
theorem gX3_reckon_X3_reckonTerm : GoodIn wsX3_reckon (wsV RX3 113 RX3 yX3_reckonTerm wsX3_reckonTerm) := goodIn_app (goodIn_of _ (by decide +kernel)) ggX3_reckon_X3_reckonTerm
theorem dX3_reckon_0 : decode cX3_reckon 0 = .ok (.aload_n 0, 1) := by decide +kernel
theorem dX3_reckon_1 : decode cX3_reckon 1 = .ok (.getfield 26, 3) := by decide +kernel
theorem dX3_reckon_4 : decode cX3_reckon 4 = .ok (.invokevirtual 97, 3) := by decide +kernel
theorem dX3_reckon_7 : decode cX3_reckon 7 = .ok (.ifCond .ne 13, 3) := by decide +kernel
theorem dX3_reckon_10 : decode cX3_reckon 10 = .ok (.new 101, 3) := by decide +kernel
theorem dX3_reckon_13 : decode cX3_reckon 13 = .ok (.dup, 1) := by decide +kernel
theorem dX3_reckon_14 : decode cX3_reckon 14 = .ok (.ldc 103, 2) := by decide +kernel
theorem dX3_reckon_16 : decode cX3_reckon 16 = .ok (.invokespecial 105, 3) := by decide +kernel
theorem dX3_reckon_19 : decode cX3_reckon 19 = .ok (.athrow, 1) := by decide +kernel
theorem dX3_reckon_20 : decode cX3_reckon 20 = .ok (.aload_n 0, 1) := by decide +kernel
theorem dX3_reckon_21 : decode cX3_reckon 21 = .ok (.getfield 19, 3) := by decide +kernel
theorem dX3_reckon_24 : decode cX3_reckon 24 = .ok (.aload_n 0, 1) := by decide +kernel
theorem dX3_reckon_25 : decode cX3_reckon 25 = .ok (.getfield 12, 3) := by decide +kernel
theorem dX3_reckon_28 : decode cX3_reckon 28 = .ok (.invokevirtual 49, 3) := by decide +kernel
theorem dX3_reckon_31 : decode cX3_reckon 31 = .ok (.iconst 0, 1) := by decide +kernel
theorem dX3_reckon_32 : decode cX3_reckon 32 = .ok (.istore_n 1, 1) := by decide +kernel
theorem dX3_reckon_33 : decode cX3_reckon 33 = .ok (.iconst 0, 1) := by decide +kernel
theorem dX3_reckon_34 : decode cX3_reckon 34 = .ok (.istore_n 2, 1) := by decide +kernel
theorem dX3_reckon_35 : decode cX3_reckon 35 = .ok (.iload_n 2, 1) := by decide +kernel
theorem dX3_reckon_36 : decode cX3_reckon 36 = .ok (.aload_n 0, 1) := by decide +kernel
theorem dX3_reckon_37 : decode cX3_reckon 37 = .ok (.getfield 26, 3) := by decide +kernel
theorem dX3_reckon_40 : decode cX3_reckon 40 = .ok (.getfield 85, 3) := by decide +kernel
theorem dX3_reckon_43 : decode cX3_reckon 43 = .ok (.if_icmp .ge 61, 3) := by decide +kernel
theorem dX3_reckon_46 : decode cX3_reckon 46 = .ok (.iload_n 2, 1) := by decide +kernel
theorem dX3_reckon_47 : decode cX3_reckon 47 = .ok (.bipush 60, 2) := by decide +kernel
theorem dX3_reckon_49 : decode cX3_reckon 49 = .ok (.if_icmp .ge 55, 3) := by decide +kernel
theorem dX3_reckon_52 : decode cX3_reckon 52 = .ok (.aload_n 0, 1) := by decide +kernel
theorem dX3_reckon_53 : decode cX3_reckon 53 = .ok (.getfield 26, 3) := by decide +kernel
theorem dX3_reckon_56 : decode cX3_reckon 56 = .ok (.getfield 90, 3) := by decide +kernel
theorem dX3_reckon_59 : decode cX3_reckon 59 = .ok (.iload_n 2, 1) := by decide +kernel
theorem dX3_reckon_60 : decode cX3_reckon 60 = .ok (.iaload, 1) := by decide +kernel
theorem dX3_reckon_61 : decode cX3_reckon 61 = .ok (.invokestatic 106, 3) := by decide +kernel
theorem dX3_reckon_64 : decode cX3_reckon 64 = .ok (.ifCond .eq 34, 3) := by decide +kernel
theorem dX3_reckon_67 : decode cX3_reckon 67 = .ok (.aload_n 0, 1) := by decide +kernel
theorem dX3_reckon_68 : decode cX3_reckon 68 = .ok (.getfield 26, 3) := by decide +kernel
theorem dX3_reckon_71 : decode cX3_reckon 71 = .ok (.iload_n 2, 1) := by decide +kernel
theorem dX3_reckon_72 : decode cX3_reckon 72 = .ok (.invokevirtual 110, 3) := by decide +kernel
theorem dX3_reckon_75 : decode cX3_reckon 75 = .ok (.istore_n 3, 1) := by decide +kernel
theorem dX3_reckon_76 : decode cX3_reckon 76 = .ok (.aload_n 0, 1) := by decide +kernel
theorem dX3_reckon_77 : decode cX3_reckon 77 = .ok (.iload_n 2, 1) := by decide +kernel
theorem dX3_reckon_78 : decode cX3_reckon 78 = .ok (.iload_n 3, 1) := by decide +kernel
theorem dX3_reckon_79 : decode cX3_reckon 79 = .ok (.invokevirtual 113, 3) := by decide +kernel
theorem dX3_reckon_82 : decode cX3_reckon 82 = .ok (.istore 4, 2) := by decide +kernel
theorem dX3_reckon_84 : decode cX3_reckon 84 = .ok (.iload_n 1, 1) := by decide +kernel
theorem dX3_reckon_85 : decode cX3_reckon 85 = .ok (.iload 4, 2) := by decide +kernel
theorem dX3_reckon_87 : decode cX3_reckon 87 = .ok (.iadd, 1) := by decide +kernel
theorem dX3_reckon_88 : decode cX3_reckon 88 = .ok (.istore_n 1, 1) := by decide +kernel
theorem dX3_reckon_89 : decode cX3_reckon 89 = .ok (.iload 4, 2) := by decide +kernel
theorem dX3_reckon_91 : decode cX3_reckon 91 = .ok (.iload_n 3, 1) := by decide +kernel
theorem dX3_reckon_92 : decode cX3_reckon 92 = .ok (.if_icmp .ge 6, 3) := by decide +kernel
theorem dX3_reckon_95 : decode cX3_reckon 95 = .ok (.goto 9, 3) := by decide +kernel
theorem dX3_reckon_98 : decode cX3_reckon 98 = .ok (.iinc 2 1, 3) := by decide +kernel
theorem dX3_reckon_101 : decode cX3_reckon 101 = .ok (.goto (-66), 3) := by decide +kernel
theorem dX3_reckon_104 : decode cX3_reckon 104 = .ok (.aload_n 0, 1) := by decide +kernel
theorem dX3_reckon_105 : decode cX3_reckon 105 = .ok (.getfield 26, 3) := by decide +kernel
theorem dX3_reckon_108 : decode cX3_reckon 108 = .ok (.iconst 0, 1) := by decide +kernel
theorem dX3_reckon_109 : decode cX3_reckon 109 = .ok (.putfield 85, 3) := by decide +kernel
theorem dX3_reckon_112 : decode cX3_reckon 112 = .ok (.iload_n 1, 1) := by decide +kernel
theorem dX3_reckon_113 : decode cX3_reckon 113 = .ok (.ireturn, 1) := by decide +kernel
set_option maxRecDepth 20000 in
theorem ggX3_undo_X1_restore : GoodIn wsX3_undo wsX1_restore := goodIn_r _ [10, 11, 12, 13, 14, 15, 16, 17, 18, 19, 20, 21, 22, 23, 24, 25, 29, 30, 31, 32, 33, 34, 35, 36, 37, 38] (by decide +kernel) (by decide +kernel)
set_option maxRecDepth 20000 in
theorem gX3_undo_X1_restore : GoodIn wsX3_undo (wsV RX3 121 RX1 yX1_restore wsX1_restore) := goodIn_app (goodIn_of _ (by decide +kernel)) ggX3_undo_X1_restore
theorem dX3_undo_0 : decode cX3_undo 0 = .ok (.aload_n 0, 1) := by decide +kernel
theorem dX3_undo_1 : decode cX3_undo 1 = .ok (.getfield 19, 3) := by decide +kernel
theorem dX3_undo_4 : decode cX3_undo 4 = .ok (.getfield 116, 3) := by decide +kernel
theorem dX3_undo_7 : decode cX3_undo 7 = .ok (.ifCond .ne 13, 3) := by decide +kernel
theorem dX3_undo_10 : decode cX3_undo 10 = .ok (.new 42, 3) := by decide +kernel
theorem dX3_undo_13 : decode cX3_undo 13 = .ok (.dup, 1) := by decide +kernel
theorem dX3_undo_14 : decode cX3_undo 14 = .ok (.ldc 119, 2) := by decide +kernel
theorem dX3_undo_16 : decode cX3_undo 16 = .ok (.invokespecial 46, 3) := by decide +kernel
theorem dX3_undo_19 : decode cX3_undo 19 = .ok (.athrow, 1) := by decide +kernel
theorem dX3_undo_20 : decode cX3_undo 20 = .ok (.aload_n 0, 1) := by decide +kernel
theorem dX3_undo_21 : decode cX3_undo 21 = .ok (.getfield 19, 3) := by decide +kernel
theorem dX3_undo_24 : decode cX3_undo 24 = .ok (.aload_n 0, 1) := by decide +kernel
theorem dX3_undo_25 : decode cX3_undo 25 = .ok (.getfield 12, 3) := by decide +kernel
theorem dX3_undo_28 : decode cX3_undo 28 = .ok (.invokevirtual 121, 3) := by decide +kernel
theorem dX3_undo_31 : decode cX3_undo 31 = .ok (.aload_n 0, 1) := by decide +kernel
theorem dX3_undo_32 : decode cX3_undo 32 = .ok (.getfield 19, 3) := by decide +kernel
theorem dX3_undo_35 : decode cX3_undo 35 = .ok (.getfield 116, 3) := by decide +kernel
theorem dX3_undo_38 : decode cX3_undo 38 = .ok (.ireturn, 1) := by decide +kernel
set_option maxRecDepth 20000 in
theorem ggX3_rod_X3_checkRod : GoodIn wsX3_rod wsX3_checkRod := goodIn_ca (goodIn_r _ [11, 12, 13] (by decide +kernel) (by decide +kernel)) (goodIn_sub (fun _ h => List.mem_cons_of_mem _ (List.mem_append_left _ (List.mem_append_right _ h))) (by decide +kernel))
set_option maxRecDepth 20000 in
theorem gX3_rod_X3_checkRod : GoodIn wsX3_rod (va_wsS RX3 30 yX3_checkRod wsX3_checkRod) := goodIn_app (goodIn_of _ (by decide +kernel)) ggX3_rod_X3_checkRod
set_option maxRecDepth 20000 in
theorem ggX3_rod_X3_checkRange : GoodIn wsX3_rod wsX3_checkRange := goodIn_ca (goodIn_r _ [16, 17, 18] (by decide +kernel) (by decide +kernel)) (goodIn_sub (fun _ h => List.mem_cons_of_mem _ (List.mem_append_right _ h)) (by decide +kernel))
set_option maxRecDepth 20000 in
theorem gX3_rod_X3_checkRange : GoodIn wsX3_rod (va_wsS RX3 34 yX3_checkRange wsX3_checkRange) := goodIn_app (goodIn_of _ (by decide +kernel)) ggX3_rod_X3_checkRange
set_option maxRecDepth 20000 in
theorem ggX3_rod_X0_shown : GoodIn wsX3_rod wsX0_shown := goodIn_r _ [23, 24, 25, 51, 52, 53, 54, 55, 56, 57] (by decide +kernel) (by decide +kernel)
set_option maxRecDepth 20000 in
theorem gX3_rod_X0_shown : GoodIn wsX3_rod (wsV RX3 130 RX0 yX0_shown wsX0_shown) := goodIn_app (goodIn_of _ (by decide +kernel)) ggX3_rod_X0_shown
set_option maxRecDepth 20000 in
theorem ggX3_rod_X0_reach : GoodIn wsX3_rod wsX0_reach := goodIn_r _ [29, 30, 31, 32, 22, 33, 34, 35, 36, 37, 24, 38, 39, 40, 41, 25, 42, 43, 44, 45, 46, 47, 51, 52, 53, 54, 55, 56, 57] (by decide +kernel) (by decide +kernel)
set_option maxRecDepth 20000 in
theorem gX3_rod_X0_reach : GoodIn wsX3_rod (wsV RX3 139 RX0 yX0_reach wsX0_reach) := goodIn_app (goodIn_of _ (by decide +kernel)) ggX3_rod_X0_reach
theorem dX3_rod_0 : decode cX3_rod 0 = .ok (.iload_n 1, 1) := by decide +kernel
theorem dX3_rod_1 : decode cX3_rod 1 = .ok (.invokestatic 30, 3) := by decide +kernel
theorem dX3_rod_4 : decode cX3_rod 4 = .ok (.iload_n 2, 1) := by decide +kernel
theorem dX3_rod_5 : decode cX3_rod 5 = .ok (.iconst 0, 1) := by decide +kernel
theorem dX3_rod_6 : decode cX3_rod 6 = .ok (.bipush 7, 2) := by decide +kernel
theorem dX3_rod_8 : decode cX3_rod 8 = .ok (.invokestatic 34, 3) := by decide +kernel
theorem dX3_rod_11 : decode cX3_rod 11 = .ok (.iload_n 2, 1) := by decide +kernel
theorem dX3_rod_12 : decode cX3_rod 12 = .ok (.tableswitch 116 0 6 #[44, 54, 64, 73, 86, 96, 106], 44) := by decide +kernel
theorem dX3_rod_56 : decode cX3_rod 56 = .ok (.aload_n 0, 1) := by decide +kernel
theorem dX3_rod_57 : decode cX3_rod 57 = .ok (.getfield 12, 3) := by decide +kernel
theorem dX3_rod_60 : decode cX3_rod 60 = .ok (.getfield 124, 3) := by decide +kernel
theorem dX3_rod_63 : decode cX3_rod 63 = .ok (.iload_n 1, 1) := by decide +kernel
theorem dX3_rod_64 : decode cX3_rod 64 = .ok (.iaload, 1) := by decide +kernel
theorem dX3_rod_65 : decode cX3_rod 65 = .ok (.ireturn, 1) := by decide +kernel
theorem dX3_rod_66 : decode cX3_rod 66 = .ok (.aload_n 0, 1) := by decide +kernel
theorem dX3_rod_67 : decode cX3_rod 67 = .ok (.getfield 12, 3) := by decide +kernel
theorem dX3_rod_70 : decode cX3_rod 70 = .ok (.getfield 127, 3) := by decide +kernel
theorem dX3_rod_73 : decode cX3_rod 73 = .ok (.iload_n 1, 1) := by decide +kernel
theorem dX3_rod_74 : decode cX3_rod 74 = .ok (.iaload, 1) := by decide +kernel
theorem dX3_rod_75 : decode cX3_rod 75 = .ok (.ireturn, 1) := by decide +kernel
theorem dX3_rod_76 : decode cX3_rod 76 = .ok (.aload_n 0, 1) := by decide +kernel
theorem dX3_rod_77 : decode cX3_rod 77 = .ok (.getfield 12, 3) := by decide +kernel
theorem dX3_rod_80 : decode cX3_rod 80 = .ok (.iload_n 1, 1) := by decide +kernel
theorem dX3_rod_81 : decode cX3_rod 81 = .ok (.invokevirtual 130, 3) := by decide +kernel
theorem dX3_rod_84 : decode cX3_rod 84 = .ok (.ireturn, 1) := by decide +kernel
theorem dX3_rod_85 : decode cX3_rod 85 = .ok (.aload_n 0, 1) := by decide +kernel
theorem dX3_rod_86 : decode cX3_rod 86 = .ok (.getfield 12, 3) := by decide +kernel
theorem dX3_rod_89 : decode cX3_rod 89 = .ok (.getfield 69, 3) := by decide +kernel
theorem dX3_rod_92 : decode cX3_rod 92 = .ok (.iload_n 1, 1) := by decide +kernel
theorem dX3_rod_93 : decode cX3_rod 93 = .ok (.iaload, 1) := by decide +kernel
theorem dX3_rod_94 : decode cX3_rod 94 = .ok (.bipush 100, 2) := by decide +kernel
theorem dX3_rod_96 : decode cX3_rod 96 = .ok (.iadd, 1) := by decide +kernel
theorem dX3_rod_97 : decode cX3_rod 97 = .ok (.ireturn, 1) := by decide +kernel
theorem dX3_rod_98 : decode cX3_rod 98 = .ok (.aload_n 0, 1) := by decide +kernel
theorem dX3_rod_99 : decode cX3_rod 99 = .ok (.getfield 12, 3) := by decide +kernel
theorem dX3_rod_102 : decode cX3_rod 102 = .ok (.getfield 57, 3) := by decide +kernel
theorem dX3_rod_105 : decode cX3_rod 105 = .ok (.iload_n 1, 1) := by decide +kernel
theorem dX3_rod_106 : decode cX3_rod 106 = .ok (.iaload, 1) := by decide +kernel
theorem dX3_rod_107 : decode cX3_rod 107 = .ok (.ireturn, 1) := by decide +kernel
theorem dX3_rod_108 : decode cX3_rod 108 = .ok (.aload_n 0, 1) := by decide +kernel
theorem dX3_rod_109 : decode cX3_rod 109 = .ok (.getfield 12, 3) := by decide +kernel
theorem dX3_rod_112 : decode cX3_rod 112 = .ok (.getfield 133, 3) := by decide +kernel
theorem dX3_rod_115 : decode cX3_rod 115 = .ok (.iload_n 1, 1) := by decide +kernel
theorem dX3_rod_116 : decode cX3_rod 116 = .ok (.iaload, 1) := by decide +kernel
theorem dX3_rod_117 : decode cX3_rod 117 = .ok (.ireturn, 1) := by decide +kernel
theorem dX3_rod_118 : decode cX3_rod 118 = .ok (.aload_n 0, 1) := by decide +kernel
theorem dX3_rod_119 : decode cX3_rod 119 = .ok (.getfield 12, 3) := by decide +kernel
theorem dX3_rod_122 : decode cX3_rod 122 = .ok (.getfield 136, 3) := by decide +kernel
theorem dX3_rod_125 : decode cX3_rod 125 = .ok (.iload_n 1, 1) := by decide +kernel
theorem dX3_rod_126 : decode cX3_rod 126 = .ok (.iaload, 1) := by decide +kernel
theorem dX3_rod_127 : decode cX3_rod 127 = .ok (.ireturn, 1) := by decide +kernel
theorem dX3_rod_128 : decode cX3_rod 128 = .ok (.aload_n 0, 1) := by decide +kernel
theorem dX3_rod_129 : decode cX3_rod 129 = .ok (.getfield 12, 3) := by decide +kernel
theorem dX3_rod_132 : decode cX3_rod 132 = .ok (.iload_n 1, 1) := by decide +kernel
theorem dX3_rod_133 : decode cX3_rod 133 = .ok (.invokevirtual 139, 3) := by decide +kernel
theorem dX3_rod_136 : decode cX3_rod 136 = .ok (.ireturn, 1) := by decide +kernel
set_option maxRecDepth 20000 in
theorem ggX3_whole_X0_shown : GoodIn wsX3_whole wsX0_shown := goodIn_r _ [8, 9, 10, 14, 15, 16, 17, 18, 19, 20] (by decide +kernel) (by decide +kernel)
set_option maxRecDepth 20000 in
theorem gX3_whole_X0_shown : GoodIn wsX3_whole (wsV RX3 130 RX0 yX0_shown wsX0_shown) := goodIn_app (goodIn_of _ (by decide +kernel)) ggX3_whole_X0_shown
theorem dX3_whole_0 : decode cX3_whole 0 = .ok (.lconst 0, 1) := by decide +kernel
theorem dX3_whole_1 : decode cX3_whole 1 = .ok (.lstore_n 1, 1) := by decide +kernel
theorem dX3_whole_2 : decode cX3_whole 2 = .ok (.lconst 1, 1) := by decide +kernel
theorem dX3_whole_3 : decode cX3_whole 3 = .ok (.lstore_n 3, 1) := by decide +kernel
theorem dX3_whole_4 : decode cX3_whole 4 = .ok (.iconst 0, 1) := by decide +kernel
theorem dX3_whole_5 : decode cX3_whole 5 = .ok (.istore 5, 2) := by decide +kernel
theorem dX3_whole_7 : decode cX3_whole 7 = .ok (.iload 5, 2) := by decide +kernel
theorem dX3_whole_9 : decode cX3_whole 9 = .ok (.bipush 9, 2) := by decide +kernel
theorem dX3_whole_11 : decode cX3_whole 11 = .ok (.if_icmp .ge 41, 3) := by decide +kernel
theorem dX3_whole_14 : decode cX3_whole 14 = .ok (.lload_n 1, 1) := by decide +kernel
theorem dX3_whole_15 : decode cX3_whole 15 = .ok (.aload_n 0, 1) := by decide +kernel
theorem dX3_whole_16 : decode cX3_whole 16 = .ok (.getfield 12, 3) := by decide +kernel
theorem dX3_whole_19 : decode cX3_whole 19 = .ok (.iload 5, 2) := by decide +kernel
theorem dX3_whole_21 : decode cX3_whole 21 = .ok (.invokevirtual 130, 3) := by decide +kernel
theorem dX3_whole_24 : decode cX3_whole 24 = .ok (.aload_n 0, 1) := by decide +kernel
theorem dX3_whole_25 : decode cX3_whole 25 = .ok (.getfield 12, 3) := by decide +kernel
theorem dX3_whole_28 : decode cX3_whole 28 = .ok (.getfield 69, 3) := by decide +kernel
theorem dX3_whole_31 : decode cX3_whole 31 = .ok (.iload 5, 2) := by decide +kernel
theorem dX3_whole_33 : decode cX3_whole 33 = .ok (.iaload, 1) := by decide +kernel
theorem dX3_whole_34 : decode cX3_whole 34 = .ok (.iadd, 1) := by decide +kernel
theorem dX3_whole_35 : decode cX3_whole 35 = .ok (.i2l, 1) := by decide +kernel
theorem dX3_whole_36 : decode cX3_whole 36 = .ok (.lload_n 3, 1) := by decide +kernel
theorem dX3_whole_37 : decode cX3_whole 37 = .ok (.lmul, 1) := by decide +kernel
theorem dX3_whole_38 : decode cX3_whole 38 = .ok (.ladd, 1) := by decide +kernel
theorem dX3_whole_39 : decode cX3_whole 39 = .ok (.lstore_n 1, 1) := by decide +kernel
theorem dX3_whole_40 : decode cX3_whole 40 = .ok (.lload_n 3, 1) := by decide +kernel
theorem dX3_whole_41 : decode cX3_whole 41 = .ok (.ldc2_w 142, 3) := by decide +kernel
theorem dX3_whole_44 : decode cX3_whole 44 = .ok (.lmul, 1) := by decide +kernel
theorem dX3_whole_45 : decode cX3_whole 45 = .ok (.lstore_n 3, 1) := by decide +kernel
theorem dX3_whole_46 : decode cX3_whole 46 = .ok (.iinc 5 1, 3) := by decide +kernel
theorem dX3_whole_49 : decode cX3_whole 49 = .ok (.goto (-42), 3) := by decide +kernel
theorem dX3_whole_52 : decode cX3_whole 52 = .ok (.lload_n 1, 1) := by decide +kernel
theorem dX3_whole_53 : decode cX3_whole 53 = .ok (.lreturn, 1) := by decide +kernel
set_option maxRecDepth 20000 in
theorem ggX3_count_X3_checkRange : GoodIn wsX3_count wsX3_checkRange := goodIn_ca (goodIn_r _ [8, 9, 10] (by decide +kernel) (by decide +kernel)) (goodIn_sub (fun _ h => List.mem_cons_of_mem _ (List.mem_append_right _ h)) (by decide +kernel))
set_option maxRecDepth 20000 in
theorem gX3_count_X3_checkRange : GoodIn wsX3_count (va_wsS RX3 34 yX3_checkRange wsX3_checkRange) := goodIn_app (goodIn_of _ (by decide +kernel)) ggX3_count_X3_checkRange
set_option maxRecDepth 20000 in
theorem ggX3_count_X0_allMoved : GoodIn wsX3_count wsX0_allMoved := goodIn_r _ [15, 16, 52, 53, 54, 55, 56, 57, 58] (by decide +kernel) (by decide +kernel)
set_option maxRecDepth 20000 in
theorem gX3_count_X0_allMoved : GoodIn wsX3_count (wsV RX3 144 RX0 yX0_allMoved wsX0_allMoved) := goodIn_app (goodIn_of _ (by decide +kernel)) ggX3_count_X0_allMoved
set_option maxRecDepth 20000 in
theorem ggX3_count_X0_rodsWithLoan : GoodIn wsX3_count wsX0_rodsWithLoan := goodIn_r _ [20, 21, 52, 53, 54, 55, 56, 57, 58] (by decide +kernel) (by decide +kernel)
set_option maxRecDepth 20000 in
theorem gX3_count_X0_rodsWithLoan : GoodIn wsX3_count (wsV RX3 147 RX0 yX0_rodsWithLoan wsX0_rodsWithLoan) := goodIn_app (goodIn_of _ (by decide +kernel)) ggX3_count_X0_rodsWithLoan
set_option maxRecDepth 20000 in
theorem ggX3_count_X0_allLoans : GoodIn wsX3_count wsX0_allLoans := goodIn_r _ [25, 21, 52, 53, 54, 55, 56, 57, 58] (by decide +kernel) (by decide +kernel)
set_option maxRecDepth 20000 in
theorem gX3_count_X0_allLoans : GoodIn wsX3_count (wsV RX3 150 RX0 yX0_allLoans wsX0_allLoans) := goodIn_app (goodIn_of _ (by decide +kernel)) ggX3_count_X0_allLoans
set_option maxRecDepth 20000 in
theorem ggX3_count_X0_allShown : GoodIn wsX3_count wsX0_allShown := goodIn_r _ [29, 30, 31, 32, 14, 33, 34, 35, 52, 53, 54, 55, 56, 57, 58] (by decide +kernel) (by decide +kernel)
set_option maxRecDepth 20000 in
theorem gX3_count_X0_allShown : GoodIn wsX3_count (wsV RX3 153 RX0 yX0_allShown wsX0_allShown) := goodIn_app (goodIn_of _ (by decide +kernel)) ggX3_count_X0_allShown
set_option maxRecDepth 20000 in
theorem ggX3_count_J9_floorMod_7cf53 : GoodIn wsX3_count wsJ9_floorMod_7cf53 := goodIn_r _ [39] (by decide +kernel) (by decide +kernel)
set_option maxRecDepth 20000 in
theorem gX3_count_J9_floorMod_7cf53 : GoodIn wsX3_count (va_wsS RX3 156 yJ9_floorMod_7cf53 wsJ9_floorMod_7cf53) := goodIn_app (goodIn_of _ (by decide +kernel)) ggX3_count_J9_floorMod_7cf53
set_option maxRecDepth 20000 in
theorem ggX3_count_X0_rodsOutOfOrder : GoodIn wsX3_count wsX0_rodsOutOfOrder := goodIn_r _ [43, 30, 31, 32, 14, 33, 34, 35, 52, 53, 54, 55, 56, 57, 58] (by decide +kernel) (by decide +kernel)
set_option maxRecDepth 20000 in
theorem gX3_count_X0_rodsOutOfOrder : GoodIn wsX3_count (wsV RX3 161 RX0 yX0_rodsOutOfOrder wsX0_rodsOutOfOrder) := goodIn_app (goodIn_of _ (by decide +kernel)) ggX3_count_X0_rodsOutOfOrder
set_option maxRecDepth 20000 in
theorem ggX3_count_X0_rodsWithStuck : GoodIn wsX3_count wsX0_rodsWithStuck := goodIn_r _ [47, 48, 52, 53, 54, 55, 56, 57, 58] (by decide +kernel) (by decide +kernel)
set_option maxRecDepth 20000 in
theorem gX3_count_X0_rodsWithStuck : GoodIn wsX3_count (wsV RX3 164 RX0 yX0_rodsWithStuck wsX0_rodsWithStuck) := goodIn_app (goodIn_of _ (by decide +kernel)) ggX3_count_X0_rodsWithStuck
theorem dX3_count_0 : decode cX3_count 0 = .ok (.iload_n 1, 1) := by decide +kernel
theorem dX3_count_1 : decode cX3_count 1 = .ok (.iconst 0, 1) := by decide +kernel
theorem dX3_count_2 : decode cX3_count 2 = .ok (.bipush 7, 2) := by decide +kernel
theorem dX3_count_4 : decode cX3_count 4 = .ok (.invokestatic 34, 3) := by decide +kernel
theorem dX3_count_7 : decode cX3_count 7 = .ok (.iload_n 1, 1) := by decide +kernel
theorem dX3_count_8 : decode cX3_count 8 = .ok (.tableswitch 116 0 6 #[44, 52, 60, 71, 92, 100, 108], 44) := by decide +kernel
theorem dX3_count_52 : decode cX3_count 52 = .ok (.aload_n 0, 1) := by decide +kernel
theorem dX3_count_53 : decode cX3_count 53 = .ok (.getfield 12, 3) := by decide +kernel
theorem dX3_count_56 : decode cX3_count 56 = .ok (.invokevirtual 144, 3) := by decide +kernel
theorem dX3_count_59 : decode cX3_count 59 = .ok (.ireturn, 1) := by decide +kernel
theorem dX3_count_60 : decode cX3_count 60 = .ok (.aload_n 0, 1) := by decide +kernel
theorem dX3_count_61 : decode cX3_count 61 = .ok (.getfield 12, 3) := by decide +kernel
theorem dX3_count_64 : decode cX3_count 64 = .ok (.invokevirtual 147, 3) := by decide +kernel
theorem dX3_count_67 : decode cX3_count 67 = .ok (.ireturn, 1) := by decide +kernel
theorem dX3_count_68 : decode cX3_count 68 = .ok (.aload_n 0, 1) := by decide +kernel
theorem dX3_count_69 : decode cX3_count 69 = .ok (.getfield 12, 3) := by decide +kernel
theorem dX3_count_72 : decode cX3_count 72 = .ok (.invokevirtual 150, 3) := by decide +kernel
theorem dX3_count_75 : decode cX3_count 75 = .ok (.bipush 100, 2) := by decide +kernel
theorem dX3_count_77 : decode cX3_count 77 = .ok (.iadd, 1) := by decide +kernel
theorem dX3_count_78 : decode cX3_count 78 = .ok (.ireturn, 1) := by decide +kernel
theorem dX3_count_79 : decode cX3_count 79 = .ok (.aload_n 0, 1) := by decide +kernel
theorem dX3_count_80 : decode cX3_count 80 = .ok (.getfield 12, 3) := by decide +kernel
theorem dX3_count_83 : decode cX3_count 83 = .ok (.invokevirtual 153, 3) := by decide +kernel
theorem dX3_count_86 : decode cX3_count 86 = .ok (.aload_n 0, 1) := by decide +kernel
theorem dX3_count_87 : decode cX3_count 87 = .ok (.getfield 12, 3) := by decide +kernel
theorem dX3_count_90 : decode cX3_count 90 = .ok (.invokevirtual 150, 3) := by decide +kernel
theorem dX3_count_93 : decode cX3_count 93 = .ok (.iadd, 1) := by decide +kernel
theorem dX3_count_94 : decode cX3_count 94 = .ok (.bipush 9, 2) := by decide +kernel
theorem dX3_count_96 : decode cX3_count 96 = .ok (.invokestatic 156, 3) := by decide +kernel
theorem dX3_count_99 : decode cX3_count 99 = .ok (.ireturn, 1) := by decide +kernel
theorem dX3_count_100 : decode cX3_count 100 = .ok (.aload_n 0, 1) := by decide +kernel
theorem dX3_count_101 : decode cX3_count 101 = .ok (.getfield 12, 3) := by decide +kernel
theorem dX3_count_104 : decode cX3_count 104 = .ok (.invokevirtual 161, 3) := by decide +kernel
theorem dX3_count_107 : decode cX3_count 107 = .ok (.ireturn, 1) := by decide +kernel
theorem dX3_count_108 : decode cX3_count 108 = .ok (.aload_n 0, 1) := by decide +kernel
theorem dX3_count_109 : decode cX3_count 109 = .ok (.getfield 12, 3) := by decide +kernel
theorem dX3_count_112 : decode cX3_count 112 = .ok (.invokevirtual 164, 3) := by decide +kernel
theorem dX3_count_115 : decode cX3_count 115 = .ok (.ireturn, 1) := by decide +kernel
theorem dX3_count_116 : decode cX3_count 116 = .ok (.aload_n 0, 1) := by decide +kernel
theorem dX3_count_117 : decode cX3_count 117 = .ok (.getfield 12, 3) := by decide +kernel
theorem dX3_count_120 : decode cX3_count 120 = .ok (.getfield 61, 3) := by decide +kernel
theorem dX3_count_123 : decode cX3_count 123 = .ok (.ireturn, 1) := by decide +kernel
theorem dX3_count_124 : decode cX3_count 124 = .ok (.aload_n 0, 1) := by decide +kernel
theorem dX3_count_125 : decode cX3_count 125 = .ok (.getfield 19, 3) := by decide +kernel
theorem dX3_count_128 : decode cX3_count 128 = .ok (.getfield 116, 3) := by decide +kernel
theorem dX3_count_131 : decode cX3_count 131 = .ok (.ireturn, 1) := by decide +kernel
set_option maxRecDepth 20000 in
theorem ggX3_moves_X3_checkRod : GoodIn wsX3_moves wsX3_checkRod := goodIn_ca (goodIn_r _ [5, 6, 7] (by decide +kernel) (by decide +kernel)) (goodIn_sub (fun _ h => List.mem_cons_of_mem _ (List.mem_append_left _ (List.mem_append_right _ h))) (by decide +kernel))
set_option maxRecDepth 20000 in
theorem gX3_moves_X3_checkRod : GoodIn wsX3_moves (va_wsS RX3 30 yX3_checkRod wsX3_checkRod) := goodIn_app (goodIn_of _ (by decide +kernel)) ggX3_moves_X3_checkRod
set_option maxRecDepth 20000 in
theorem ggX3_moves_X3_checkRange : GoodIn wsX3_moves wsX3_checkRange := goodIn_ca (goodIn_r _ [10, 11, 12] (by decide +kernel) (by decide +kernel)) (goodIn_sub (fun _ h => List.mem_cons_of_mem _ (List.mem_append_right _ h)) (by decide +kernel))
set_option maxRecDepth 20000 in
theorem gX3_moves_X3_checkRange : GoodIn wsX3_moves (va_wsS RX3 34 yX3_checkRange wsX3_checkRange) := goodIn_app (goodIn_of _ (by decide +kernel)) ggX3_moves_X3_checkRange
set_option maxRecDepth 20000 in
theorem ggX3_moves_X0_turn : GoodIn wsX3_moves wsX0_turn := goodIn_r _ [17, 18, 19, 20, 16, 21, 22, 23, 24, 25, 26, 27, 28, 29, 30, 31, 32, 33, 37, 38, 39, 40, 41, 42, 43] (by decide +kernel) (by decide +kernel)
set_option maxRecDepth 20000 in
theorem gX3_moves_X0_turn : GoodIn wsX3_moves (wsV RX3 167 RX0 yX0_turn wsX0_turn) := goodIn_app (goodIn_of _ (by decide +kernel)) ggX3_moves_X0_turn
theorem dX3_moves_0 : decode cX3_moves 0 = .ok (.iload_n 1, 1) := by decide +kernel
theorem dX3_moves_1 : decode cX3_moves 1 = .ok (.invokestatic 30, 3) := by decide +kernel
theorem dX3_moves_4 : decode cX3_moves 4 = .ok (.iload_n 2, 1) := by decide +kernel
theorem dX3_moves_5 : decode cX3_moves 5 = .ok (.iconst 0, 1) := by decide +kernel
theorem dX3_moves_6 : decode cX3_moves 6 = .ok (.bipush 15, 2) := by decide +kernel
theorem dX3_moves_8 : decode cX3_moves 8 = .ok (.invokestatic 34, 3) := by decide +kernel
theorem dX3_moves_11 : decode cX3_moves 11 = .ok (.aload_n 0, 1) := by decide +kernel
theorem dX3_moves_12 : decode cX3_moves 12 = .ok (.getfield 12, 3) := by decide +kernel
theorem dX3_moves_15 : decode cX3_moves 15 = .ok (.iload_n 1, 1) := by decide +kernel
theorem dX3_moves_16 : decode cX3_moves 16 = .ok (.iload_n 2, 1) := by decide +kernel
theorem dX3_moves_17 : decode cX3_moves 17 = .ok (.iconst 0, 1) := by decide +kernel
theorem dX3_moves_18 : decode cX3_moves 18 = .ok (.invokevirtual 167, 3) := by decide +kernel
theorem dX3_moves_21 : decode cX3_moves 21 = .ok (.ireturn, 1) := by decide +kernel
set_option maxRecDepth 20000 in
theorem ggX3_ifAdded_X3_checkRod : GoodIn wsX3_ifAdded wsX3_checkRod := goodIn_ca (goodIn_r _ [5, 6, 7] (by decide +kernel) (by decide +kernel)) (goodIn_sub (fun _ h => List.mem_cons_of_mem _ (List.mem_append_left _ (List.mem_append_right _ h))) (by decide +kernel))
set_option maxRecDepth 20000 in
theorem gX3_ifAdded_X3_checkRod : GoodIn wsX3_ifAdded (va_wsS RX3 30 yX3_checkRod wsX3_checkRod) := goodIn_app (goodIn_of _ (by decide +kernel)) ggX3_ifAdded_X3_checkRod
set_option maxRecDepth 20000 in
theorem ggX3_ifAdded_X3_checkRange : GoodIn wsX3_ifAdded wsX3_checkRange := goodIn_ca (goodIn_r _ [10, 11, 12] (by decide +kernel) (by decide +kernel)) (goodIn_sub (fun _ h => List.mem_cons_of_mem _ (List.mem_append_right _ h)) (by decide +kernel))
set_option maxRecDepth 20000 in
theorem gX3_ifAdded_X3_checkRange : GoodIn wsX3_ifAdded (va_wsS RX3 34 yX3_checkRange wsX3_checkRange) := goodIn_app (goodIn_of _ (by decide +kernel)) ggX3_ifAdded_X3_checkRange
set_option maxRecDepth 20000 in
theorem ggX3_ifAdded_X0_change : GoodIn wsX3_ifAdded wsX0_change := goodIn_r _ [17, 18, 19, 20, 16, 21, 22, 23, 24, 25, 26, 27, 28, 29, 30, 31, 32, 33, 34, 35, 36, 37, 38, 39, 40, 41, 42, 43, 44, 45, 46, 47, 48, 49, 50, 51, 52, 56, 57, 58, 59, 60, 61, 62] (by decide +kernel) (by decide +kernel)
set_option maxRecDepth 20000 in
theorem gX3_ifAdded_X0_change : GoodIn wsX3_ifAdded (wsV RX3 72 RX0 yX0_change wsX0_change) := goodIn_app (goodIn_of _ (by decide +kernel)) ggX3_ifAdded_X0_change
theorem dX3_ifAdded_0 : decode cX3_ifAdded 0 = .ok (.iload_n 1, 1) := by decide +kernel
theorem dX3_ifAdded_1 : decode cX3_ifAdded 1 = .ok (.invokestatic 30, 3) := by decide +kernel
theorem dX3_ifAdded_4 : decode cX3_ifAdded 4 = .ok (.iload_n 2, 1) := by decide +kernel
theorem dX3_ifAdded_5 : decode cX3_ifAdded 5 = .ok (.bipush (-9), 2) := by decide +kernel
theorem dX3_ifAdded_7 : decode cX3_ifAdded 7 = .ok (.bipush 9, 2) := by decide +kernel
theorem dX3_ifAdded_9 : decode cX3_ifAdded 9 = .ok (.invokestatic 34, 3) := by decide +kernel
theorem dX3_ifAdded_12 : decode cX3_ifAdded 12 = .ok (.aload_n 0, 1) := by decide +kernel
theorem dX3_ifAdded_13 : decode cX3_ifAdded 13 = .ok (.getfield 12, 3) := by decide +kernel
theorem dX3_ifAdded_16 : decode cX3_ifAdded 16 = .ok (.iload_n 1, 1) := by decide +kernel
theorem dX3_ifAdded_17 : decode cX3_ifAdded 17 = .ok (.iload_n 2, 1) := by decide +kernel
theorem dX3_ifAdded_18 : decode cX3_ifAdded 18 = .ok (.iconst 0, 1) := by decide +kernel
theorem dX3_ifAdded_19 : decode cX3_ifAdded 19 = .ok (.invokevirtual 72, 3) := by decide +kernel
theorem dX3_ifAdded_22 : decode cX3_ifAdded 22 = .ok (.ireturn, 1) := by decide +kernel
set_option maxRecDepth 20000 in
theorem ggX3_toShow_X3_checkRange : GoodIn wsX3_toShow wsX3_checkRange := goodIn_ca (goodIn_r _ [6, 7, 8] (by decide +kernel) (by decide +kernel)) (goodIn_sub (fun _ h => List.mem_cons_of_mem _ (List.mem_append_right _ h)) (by decide +kernel))
set_option maxRecDepth 20000 in
theorem gX3_toShow_X3_checkRange : GoodIn wsX3_toShow (va_wsS RX3 34 yX3_checkRange wsX3_checkRange) := goodIn_app (goodIn_of _ (by decide +kernel)) ggX3_toShow_X3_checkRange
set_option maxRecDepth 20000 in
theorem ggX3_toShow_X0_turn : GoodIn wsX3_toShow wsX0_turn := goodIn_r _ [13, 14, 15, 16, 12, 17, 18, 19, 20, 21, 22, 23, 24, 25, 26, 27, 28, 29, 33, 34, 35, 36, 37, 38, 39] (by decide +kernel) (by decide +kernel)
set_option maxRecDepth 20000 in
theorem gX3_toShow_X0_turn : GoodIn wsX3_toShow (wsV RX3 167 RX0 yX0_turn wsX0_turn) := goodIn_app (goodIn_of _ (by decide +kernel)) ggX3_toShow_X0_turn
theorem dX3_toShow_0 : decode cX3_toShow 0 = .ok (.iload_n 1, 1) := by decide +kernel
theorem dX3_toShow_1 : decode cX3_toShow 1 = .ok (.iconst 0, 1) := by decide +kernel
theorem dX3_toShow_2 : decode cX3_toShow 2 = .ok (.ldc 170, 2) := by decide +kernel
theorem dX3_toShow_4 : decode cX3_toShow 4 = .ok (.invokestatic 34, 3) := by decide +kernel
theorem dX3_toShow_7 : decode cX3_toShow 7 = .ok (.iconst 0, 1) := by decide +kernel
theorem dX3_toShow_8 : decode cX3_toShow 8 = .ok (.istore_n 2, 1) := by decide +kernel
theorem dX3_toShow_9 : decode cX3_toShow 9 = .ok (.iload_n 1, 1) := by decide +kernel
theorem dX3_toShow_10 : decode cX3_toShow 10 = .ok (.istore_n 3, 1) := by decide +kernel
theorem dX3_toShow_11 : decode cX3_toShow 11 = .ok (.iconst 0, 1) := by decide +kernel
theorem dX3_toShow_12 : decode cX3_toShow 12 = .ok (.istore 4, 2) := by decide +kernel
theorem dX3_toShow_14 : decode cX3_toShow 14 = .ok (.iload 4, 2) := by decide +kernel
theorem dX3_toShow_16 : decode cX3_toShow 16 = .ok (.bipush 9, 2) := by decide +kernel
theorem dX3_toShow_18 : decode cX3_toShow 18 = .ok (.if_icmp .ge 43, 3) := by decide +kernel
theorem dX3_toShow_21 : decode cX3_toShow 21 = .ok (.aload_n 0, 1) := by decide +kernel
theorem dX3_toShow_22 : decode cX3_toShow 22 = .ok (.getfield 12, 3) := by decide +kernel
theorem dX3_toShow_25 : decode cX3_toShow 25 = .ok (.iload 4, 2) := by decide +kernel
theorem dX3_toShow_27 : decode cX3_toShow 27 = .ok (.iload_n 3, 1) := by decide +kernel
theorem dX3_toShow_28 : decode cX3_toShow 28 = .ok (.bipush 10, 2) := by decide +kernel
theorem dX3_toShow_30 : decode cX3_toShow 30 = .ok (.irem, 1) := by decide +kernel
theorem dX3_toShow_31 : decode cX3_toShow 31 = .ok (.iconst 0, 1) := by decide +kernel
theorem dX3_toShow_32 : decode cX3_toShow 32 = .ok (.invokevirtual 167, 3) := by decide +kernel
theorem dX3_toShow_35 : decode cX3_toShow 35 = .ok (.istore 5, 2) := by decide +kernel
theorem dX3_toShow_37 : decode cX3_toShow 37 = .ok (.iload 5, 2) := by decide +kernel
theorem dX3_toShow_39 : decode cX3_toShow 39 = .ok (.iconst (-1), 1) := by decide +kernel
theorem dX3_toShow_40 : decode cX3_toShow 40 = .ok (.if_icmp .ne 5, 3) := by decide +kernel
theorem dX3_toShow_43 : decode cX3_toShow 43 = .ok (.iconst (-1), 1) := by decide +kernel
theorem dX3_toShow_44 : decode cX3_toShow 44 = .ok (.ireturn, 1) := by decide +kernel
theorem dX3_toShow_45 : decode cX3_toShow 45 = .ok (.iload_n 2, 1) := by decide +kernel
theorem dX3_toShow_46 : decode cX3_toShow 46 = .ok (.iload 5, 2) := by decide +kernel
theorem dX3_toShow_48 : decode cX3_toShow 48 = .ok (.iadd, 1) := by decide +kernel
theorem dX3_toShow_49 : decode cX3_toShow 49 = .ok (.istore_n 2, 1) := by decide +kernel
theorem dX3_toShow_50 : decode cX3_toShow 50 = .ok (.iload_n 3, 1) := by decide +kernel
theorem dX3_toShow_51 : decode cX3_toShow 51 = .ok (.bipush 10, 2) := by decide +kernel
theorem dX3_toShow_53 : decode cX3_toShow 53 = .ok (.idiv, 1) := by decide +kernel
theorem dX3_toShow_54 : decode cX3_toShow 54 = .ok (.istore_n 3, 1) := by decide +kernel
theorem dX3_toShow_55 : decode cX3_toShow 55 = .ok (.iinc 4 1, 3) := by decide +kernel
theorem dX3_toShow_58 : decode cX3_toShow 58 = .ok (.goto (-44), 3) := by decide +kernel
theorem dX3_toShow_61 : decode cX3_toShow 61 = .ok (.iload_n 2, 1) := by decide +kernel
theorem dX3_toShow_62 : decode cX3_toShow 62 = .ok (.ireturn, 1) := by decide +kernel
set_option maxRecDepth 20000 in
theorem ggX3_cheapestLoan_X0_change : GoodIn wsX3_cheapestLoan wsX0_change := goodIn_r _ [7, 8, 9, 10, 6, 11, 12, 13, 14, 15, 16, 17, 18, 19, 20, 21, 22, 23, 24, 25, 26, 27, 28, 29, 30, 31, 32, 33, 34, 35, 36, 37, 38, 39, 40, 41, 42, 46, 47, 48, 49, 50, 51, 52] (by decide +kernel) (by decide +kernel)
set_option maxRecDepth 20000 in
theorem gX3_cheapestLoan_X0_change : GoodIn wsX3_cheapestLoan (wsV RX3 72 RX0 yX0_change wsX0_change) := goodIn_app (goodIn_of _ (by decide +kernel)) ggX3_cheapestLoan_X0_change
theorem dX3_cheapestLoan_0 : decode cX3_cheapestLoan 0 = .ok (.iconst (-1), 1) := by decide +kernel
theorem dX3_cheapestLoan_1 : decode cX3_cheapestLoan 1 = .ok (.istore_n 1, 1) := by decide +kernel
theorem dX3_cheapestLoan_2 : decode cX3_cheapestLoan 2 = .ok (.iconst 0, 1) := by decide +kernel
theorem dX3_cheapestLoan_3 : decode cX3_cheapestLoan 3 = .ok (.istore_n 2, 1) := by decide +kernel
theorem dX3_cheapestLoan_4 : decode cX3_cheapestLoan 4 = .ok (.iconst 0, 1) := by decide +kernel
theorem dX3_cheapestLoan_5 : decode cX3_cheapestLoan 5 = .ok (.istore_n 3, 1) := by decide +kernel
theorem dX3_cheapestLoan_6 : decode cX3_cheapestLoan 6 = .ok (.iload_n 3, 1) := by decide +kernel
theorem dX3_cheapestLoan_7 : decode cX3_cheapestLoan 7 = .ok (.bipush 9, 2) := by decide +kernel
theorem dX3_cheapestLoan_9 : decode cX3_cheapestLoan 9 = .ok (.if_icmp .ge 63, 3) := by decide +kernel
theorem dX3_cheapestLoan_12 : decode cX3_cheapestLoan 12 = .ok (.aload_n 0, 1) := by decide +kernel
theorem dX3_cheapestLoan_13 : decode cX3_cheapestLoan 13 = .ok (.getfield 12, 3) := by decide +kernel
theorem dX3_cheapestLoan_16 : decode cX3_cheapestLoan 16 = .ok (.getfield 69, 3) := by decide +kernel
theorem dX3_cheapestLoan_19 : decode cX3_cheapestLoan 19 = .ok (.iload_n 3, 1) := by decide +kernel
theorem dX3_cheapestLoan_20 : decode cX3_cheapestLoan 20 = .ok (.iaload, 1) := by decide +kernel
theorem dX3_cheapestLoan_21 : decode cX3_cheapestLoan 21 = .ok (.ifCond .eq 45, 3) := by decide +kernel
theorem dX3_cheapestLoan_24 : decode cX3_cheapestLoan 24 = .ok (.aload_n 0, 1) := by decide +kernel
theorem dX3_cheapestLoan_25 : decode cX3_cheapestLoan 25 = .ok (.getfield 12, 3) := by decide +kernel
theorem dX3_cheapestLoan_28 : decode cX3_cheapestLoan 28 = .ok (.iload_n 3, 1) := by decide +kernel
theorem dX3_cheapestLoan_29 : decode cX3_cheapestLoan 29 = .ok (.aload_n 0, 1) := by decide +kernel
theorem dX3_cheapestLoan_30 : decode cX3_cheapestLoan 30 = .ok (.getfield 12, 3) := by decide +kernel
theorem dX3_cheapestLoan_33 : decode cX3_cheapestLoan 33 = .ok (.getfield 69, 3) := by decide +kernel
theorem dX3_cheapestLoan_36 : decode cX3_cheapestLoan 36 = .ok (.iload_n 3, 1) := by decide +kernel
theorem dX3_cheapestLoan_37 : decode cX3_cheapestLoan 37 = .ok (.iaload, 1) := by decide +kernel
theorem dX3_cheapestLoan_38 : decode cX3_cheapestLoan 38 = .ok (.iconst 0, 1) := by decide +kernel
theorem dX3_cheapestLoan_39 : decode cX3_cheapestLoan 39 = .ok (.invokevirtual 72, 3) := by decide +kernel
theorem dX3_cheapestLoan_42 : decode cX3_cheapestLoan 42 = .ok (.istore 4, 2) := by decide +kernel
theorem dX3_cheapestLoan_44 : decode cX3_cheapestLoan 44 = .ok (.iload 4, 2) := by decide +kernel
theorem dX3_cheapestLoan_46 : decode cX3_cheapestLoan 46 = .ok (.iconst (-1), 1) := by decide +kernel
theorem dX3_cheapestLoan_47 : decode cX3_cheapestLoan 47 = .ok (.if_icmp .eq 19, 3) := by decide +kernel
theorem dX3_cheapestLoan_50 : decode cX3_cheapestLoan 50 = .ok (.iload_n 1, 1) := by decide +kernel
theorem dX3_cheapestLoan_51 : decode cX3_cheapestLoan 51 = .ok (.iconst (-1), 1) := by decide +kernel
theorem dX3_cheapestLoan_52 : decode cX3_cheapestLoan 52 = .ok (.if_icmp .eq 9, 3) := by decide +kernel
theorem dX3_cheapestLoan_55 : decode cX3_cheapestLoan 55 = .ok (.iload 4, 2) := by decide +kernel
theorem dX3_cheapestLoan_57 : decode cX3_cheapestLoan 57 = .ok (.iload_n 2, 1) := by decide +kernel
theorem dX3_cheapestLoan_58 : decode cX3_cheapestLoan 58 = .ok (.if_icmp .ge 8, 3) := by decide +kernel
end
section
theorem dX3_cheapestLoan_61 : decode cX3_cheapestLoan 61 = .ok (.iload_n 3, 1) := by decide +kernel
theorem dX3_cheapestLoan_62 : decode cX3_cheapestLoan 62 = .ok (.istore_n 1, 1) := by decide +kernel
theorem dX3_cheapestLoan_63 : decode cX3_cheapestLoan 63 = .ok (.iload 4, 2) := by decide +kernel
theorem dX3_cheapestLoan_65 : decode cX3_cheapestLoan 65 = .ok (.istore_n 2, 1) := by decide +kernel
theorem dX3_cheapestLoan_66 : decode cX3_cheapestLoan 66 = .ok (.iinc 3 1, 3) := by decide +kernel
theorem dX3_cheapestLoan_69 : decode cX3_cheapestLoan 69 = .ok (.goto (-63), 3) := by decide +kernel
theorem dX3_cheapestLoan_72 : decode cX3_cheapestLoan 72 = .ok (.iload_n 1, 1) := by decide +kernel
theorem dX3_cheapestLoan_73 : decode cX3_cheapestLoan 73 = .ok (.ireturn, 1) := by decide +kernel
set_option maxRecDepth 20000 in
theorem ggX3_looseness_X0_reach : GoodIn wsX3_looseness wsX0_reach := goodIn_r _ [7, 8, 9, 10, 6, 11, 12, 13, 14, 15, 16, 17, 18, 19, 20, 21, 22, 23, 24, 25, 26, 27, 31, 32, 33, 34, 35, 36, 37] (by decide +kernel) (by decide +kernel)
set_option maxRecDepth 20000 in
theorem gX3_looseness_X0_reach : GoodIn wsX3_looseness (wsV RX3 139 RX0 yX0_reach wsX0_reach) := goodIn_app (goodIn_of _ (by decide +kernel)) ggX3_looseness_X0_reach
theorem dX3_looseness_0 : decode cX3_looseness 0 = .ok (.iconst 0, 1) := by decide +kernel
theorem dX3_looseness_1 : decode cX3_looseness 1 = .ok (.istore_n 1, 1) := by decide +kernel
theorem dX3_looseness_2 : decode cX3_looseness 2 = .ok (.iconst 0, 1) := by decide +kernel
theorem dX3_looseness_3 : decode cX3_looseness 3 = .ok (.istore_n 2, 1) := by decide +kernel
theorem dX3_looseness_4 : decode cX3_looseness 4 = .ok (.iload_n 2, 1) := by decide +kernel
theorem dX3_looseness_5 : decode cX3_looseness 5 = .ok (.bipush 9, 2) := by decide +kernel
theorem dX3_looseness_7 : decode cX3_looseness 7 = .ok (.if_icmp .ge 20, 3) := by decide +kernel
theorem dX3_looseness_10 : decode cX3_looseness 10 = .ok (.iload_n 1, 1) := by decide +kernel
theorem dX3_looseness_11 : decode cX3_looseness 11 = .ok (.aload_n 0, 1) := by decide +kernel
theorem dX3_looseness_12 : decode cX3_looseness 12 = .ok (.getfield 12, 3) := by decide +kernel
theorem dX3_looseness_15 : decode cX3_looseness 15 = .ok (.iload_n 2, 1) := by decide +kernel
theorem dX3_looseness_16 : decode cX3_looseness 16 = .ok (.invokevirtual 139, 3) := by decide +kernel
theorem dX3_looseness_19 : decode cX3_looseness 19 = .ok (.iadd, 1) := by decide +kernel
theorem dX3_looseness_20 : decode cX3_looseness 20 = .ok (.istore_n 1, 1) := by decide +kernel
theorem dX3_looseness_21 : decode cX3_looseness 21 = .ok (.iinc 2 1, 3) := by decide +kernel
theorem dX3_looseness_24 : decode cX3_looseness 24 = .ok (.goto (-20), 3) := by decide +kernel
theorem dX3_looseness_27 : decode cX3_looseness 27 = .ok (.iload_n 1, 1) := by decide +kernel
theorem dX3_looseness_28 : decode cX3_looseness 28 = .ok (.i2d, 1) := by decide +kernel
theorem dX3_looseness_29 : decode cX3_looseness 29 = .ok (.ldc2_w 171, 3) := by decide +kernel
theorem dX3_looseness_32 : decode cX3_looseness 32 = .ok (.ddiv, 1) := by decide +kernel
theorem dX3_looseness_33 : decode cX3_looseness 33 = .ok (.dreturn, 1) := by decide +kernel
set_option maxRecDepth 20000 in
theorem ggX3_digest_X3_count : GoodIn wsX3_digest wsX3_count := goodIn_ca (goodIn_r _ [10, 11, 12, 13, 14, 15, 16, 9, 17, 18, 19, 20, 21, 22, 23, 24, 25, 26, 27, 28, 29, 30, 31, 32, 33, 34, 35, 36, 37, 38, 39, 40, 41, 42, 43, 44, 45, 46, 47, 48, 49, 50, 51, 52, 53, 54, 55, 56, 57, 146, 147, 148, 151, 152, 153, 154, 155, 156, 157, 158, 159, 160] (by decide +kernel) (by decide +kernel)) (goodIn_sub (fun _ h => List.mem_cons_of_mem _ (List.mem_append_left _ (List.mem_append_right _ h))) (by decide +kernel))
set_option maxRecDepth 20000 in
theorem gX3_digest_X3_count : GoodIn wsX3_digest (wsV RX3 175 RX3 yX3_count wsX3_count) := goodIn_app (goodIn_of _ (by decide +kernel)) ggX3_digest_X3_count
set_option maxRecDepth 20000 in
theorem ggX3_digest_X3_mixed : GoodIn wsX3_digest wsX3_mixed := goodIn_r _ [60, 61] (by decide +kernel) (by decide +kernel)
set_option maxRecDepth 20000 in
theorem gX3_digest_X3_mixed : GoodIn wsX3_digest (va_wsS RX3 178 yX3_mixed wsX3_mixed) := goodIn_app (goodIn_of _ (by decide +kernel)) ggX3_digest_X3_mixed
set_option maxRecDepth 20000 in
theorem ggX3_digest_X3_whole : GoodIn wsX3_digest wsX3_whole := goodIn_r _ [65, 11, 66, 67, 68, 40, 41, 23, 42, 43, 44, 146, 147, 148, 151, 152, 153, 154, 155, 156, 157] (by decide +kernel) (by decide +kernel)
set_option maxRecDepth 20000 in
theorem gX3_digest_X3_whole : GoodIn wsX3_digest (wsV RX3 182 RX3 yX3_whole wsX3_whole) := goodIn_app (goodIn_of _ (by decide +kernel)) ggX3_digest_X3_whole
set_option maxRecDepth 20000 in
theorem ggX3_digest_X3_rod : GoodIn wsX3_digest wsX3_rod := goodIn_ca (goodIn_ca (goodIn_r _ [72, 11, 73, 74, 66, 75, 76, 77, 78, 79, 9, 80, 81, 82, 15, 16, 17, 18, 19, 68, 40, 41, 23, 42, 43, 44, 83, 84, 85, 86, 87, 88, 89, 90, 91, 92, 93, 94, 95, 96, 97, 98, 57, 99, 100, 101, 102, 25, 146, 147, 148, 151, 152, 153, 154, 155, 156, 157] (by decide +kernel) (by decide +kernel)) (goodIn_sub (fun _ h => List.mem_cons_of_mem _ (List.mem_append_right _ h)) (by decide +kernel))) (goodIn_sub (fun _ h => List.mem_cons_of_mem _ (List.mem_append_left _ (List.mem_append_right _ h))) (by decide +kernel))
set_option maxRecDepth 20000 in
theorem gX3_digest_X3_rod : GoodIn wsX3_digest (wsV RX3 186 RX3 yX3_rod wsX3_rod) := goodIn_app (goodIn_of _ (by decide +kernel)) ggX3_digest_X3_rod
set_option maxRecDepth 20000 in
theorem ggX3_digest_X3_moves : GoodIn wsX3_digest wsX3_moves := goodIn_ca (goodIn_ca (goodIn_r _ [106, 11, 78, 79, 9, 80, 81, 82, 15, 16, 17, 18, 19, 107, 88, 89, 23, 90, 91, 92, 93, 94, 43, 95, 96, 97, 98, 44, 57, 99, 100, 101, 102, 25, 146, 147, 148, 151, 152, 153, 154, 155, 156, 157] (by decide +kernel) (by decide +kernel)) (goodIn_sub (fun _ h => List.mem_cons_of_mem _ (List.mem_append_right _ h)) (by decide +kernel))) (goodIn_sub (fun _ h => List.mem_cons_of_mem _ (List.mem_append_left _ (List.mem_append_right _ h))) (by decide +kernel))
set_option maxRecDepth 20000 in
theorem gX3_digest_X3_moves : GoodIn wsX3_digest (wsV RX3 189 RX3 yX3_moves wsX3_moves) := goodIn_app (goodIn_of _ (by decide +kernel)) ggX3_digest_X3_moves
set_option maxRecDepth 20000 in
theorem ggX3_digest_X3_ifAdded : GoodIn wsX3_digest wsX3_ifAdded := goodIn_ca (goodIn_ca (goodIn_r _ [111, 11, 78, 79, 9, 80, 81, 82, 15, 16, 17, 18, 19, 112, 113, 114, 23, 115, 39, 40, 41, 42, 43, 44, 87, 88, 89, 90, 91, 92, 93, 94, 95, 96, 97, 98, 57, 99, 100, 101, 102, 25, 116, 117, 118, 119, 120, 121, 122, 123, 30, 124, 125, 146, 147, 148, 151, 152, 153, 154, 155, 156, 157] (by decide +kernel) (by decide +kernel)) (goodIn_sub (fun _ h => List.mem_cons_of_mem _ (List.mem_append_right _ h)) (by decide +kernel))) (goodIn_sub (fun _ h => List.mem_cons_of_mem _ (List.mem_append_left _ (List.mem_append_right _ h))) (by decide +kernel))
set_option maxRecDepth 20000 in
theorem gX3_digest_X3_ifAdded : GoodIn wsX3_digest (wsV RX3 192 RX3 yX3_ifAdded wsX3_ifAdded) := goodIn_app (goodIn_of _ (by decide +kernel)) ggX3_digest_X3_ifAdded
set_option maxRecDepth 20000 in
theorem ggX3_digest_X3_toShow : GoodIn wsX3_digest wsX3_toShow := goodIn_ca (goodIn_r _ [129, 130, 11, 15, 16, 9, 17, 18, 19, 107, 88, 89, 23, 90, 91, 92, 93, 94, 43, 95, 96, 97, 98, 44, 57, 99, 100, 101, 102, 25, 146, 147, 148, 151, 152, 153, 154, 155, 156, 157] (by decide +kernel) (by decide +kernel)) (goodIn_sub (fun _ h => List.mem_cons_of_mem _ (List.mem_append_left _ (List.mem_append_right _ h))) (by decide +kernel))
set_option maxRecDepth 20000 in
theorem gX3_digest_X3_toShow : GoodIn wsX3_digest (wsV RX3 195 RX3 yX3_toShow wsX3_toShow) := goodIn_app (goodIn_of _ (by decide +kernel)) ggX3_digest_X3_toShow
set_option maxRecDepth 20000 in
theorem ggX3_digest_X3_cheapestLoan : GoodIn wsX3_digest wsX3_cheapestLoan := goodIn_r _ [134, 11, 66, 112, 113, 114, 23, 115, 39, 40, 41, 42, 43, 44, 87, 88, 89, 90, 91, 92, 93, 94, 95, 96, 97, 98, 57, 99, 100, 101, 102, 25, 116, 117, 118, 119, 120, 121, 122, 123, 30, 124, 125, 146, 147, 148, 151, 152, 153, 154, 155, 156, 157] (by decide +kernel) (by decide +kernel)
set_option maxRecDepth 20000 in
theorem gX3_digest_X3_cheapestLoan : GoodIn wsX3_digest (wsV RX3 199 RX3 yX3_cheapestLoan wsX3_cheapestLoan) := goodIn_app (goodIn_of _ (by decide +kernel)) ggX3_digest_X3_cheapestLoan
set_option maxRecDepth 20000 in
theorem ggX3_digest_X3_looseness : GoodIn wsX3_digest wsX3_looseness := goodIn_r _ [138, 11, 139, 83, 84, 85, 23, 86, 87, 88, 89, 90, 91, 92, 93, 94, 43, 95, 96, 97, 98, 44, 57, 99, 100, 101, 102, 25, 146, 147, 148, 151, 152, 153, 154, 155, 156, 157] (by decide +kernel) (by decide +kernel)
set_option maxRecDepth 20000 in
theorem gX3_digest_X3_looseness : GoodIn wsX3_digest (wsV RX3 202 RX3 yX3_looseness wsX3_looseness) := goodIn_app (goodIn_of _ (by decide +kernel)) ggX3_digest_X3_looseness
set_option maxRecDepth 20000 in
theorem ggX3_digest_X3_bitsOf : GoodIn wsX3_digest wsX3_bitsOf := goodIn_r _ [142, 143, 144, 145] (by decide +kernel) (by decide +kernel)
set_option maxRecDepth 20000 in
theorem gX3_digest_X3_bitsOf : GoodIn wsX3_digest (va_wsS RX3 206 yX3_bitsOf wsX3_bitsOf) := goodIn_app (goodIn_of _ (by decide +kernel)) ggX3_digest_X3_bitsOf
theorem dX3_digest_0 : decode cX3_digest 0 = .ok (.ldc2_w 173, 3) := by decide +kernel
theorem dX3_digest_3 : decode cX3_digest 3 = .ok (.lstore_n 1, 1) := by decide +kernel
theorem dX3_digest_4 : decode cX3_digest 4 = .ok (.iconst 0, 1) := by decide +kernel
theorem dX3_digest_5 : decode cX3_digest 5 = .ok (.istore_n 3, 1) := by decide +kernel
theorem dX3_digest_6 : decode cX3_digest 6 = .ok (.iload_n 3, 1) := by decide +kernel
theorem dX3_digest_7 : decode cX3_digest 7 = .ok (.bipush 7, 2) := by decide +kernel
theorem dX3_digest_9 : decode cX3_digest 9 = .ok (.if_icmp .gt 20, 3) := by decide +kernel
theorem dX3_digest_12 : decode cX3_digest 12 = .ok (.lload_n 1, 1) := by decide +kernel
theorem dX3_digest_13 : decode cX3_digest 13 = .ok (.aload_n 0, 1) := by decide +kernel
theorem dX3_digest_14 : decode cX3_digest 14 = .ok (.iload_n 3, 1) := by decide +kernel
theorem dX3_digest_15 : decode cX3_digest 15 = .ok (.invokevirtual 175, 3) := by decide +kernel
theorem dX3_digest_18 : decode cX3_digest 18 = .ok (.i2l, 1) := by decide +kernel
theorem dX3_digest_19 : decode cX3_digest 19 = .ok (.invokestatic 178, 3) := by decide +kernel
theorem dX3_digest_22 : decode cX3_digest 22 = .ok (.lstore_n 1, 1) := by decide +kernel
theorem dX3_digest_23 : decode cX3_digest 23 = .ok (.iinc 3 1, 3) := by decide +kernel
theorem dX3_digest_26 : decode cX3_digest 26 = .ok (.goto (-20), 3) := by decide +kernel
theorem dX3_digest_29 : decode cX3_digest 29 = .ok (.lload_n 1, 1) := by decide +kernel
theorem dX3_digest_30 : decode cX3_digest 30 = .ok (.aload_n 0, 1) := by decide +kernel
theorem dX3_digest_31 : decode cX3_digest 31 = .ok (.invokevirtual 182, 3) := by decide +kernel
theorem dX3_digest_34 : decode cX3_digest 34 = .ok (.invokestatic 178, 3) := by decide +kernel
theorem dX3_digest_37 : decode cX3_digest 37 = .ok (.lstore_n 1, 1) := by decide +kernel
theorem dX3_digest_38 : decode cX3_digest 38 = .ok (.iconst 0, 1) := by decide +kernel
theorem dX3_digest_39 : decode cX3_digest 39 = .ok (.istore_n 3, 1) := by decide +kernel
theorem dX3_digest_40 : decode cX3_digest 40 = .ok (.iload_n 3, 1) := by decide +kernel
theorem dX3_digest_41 : decode cX3_digest 41 = .ok (.bipush 9, 2) := by decide +kernel
theorem dX3_digest_43 : decode cX3_digest 43 = .ok (.if_icmp .ge 126, 3) := by decide +kernel
theorem dX3_digest_46 : decode cX3_digest 46 = .ok (.iconst 0, 1) := by decide +kernel
theorem dX3_digest_47 : decode cX3_digest 47 = .ok (.istore 4, 2) := by decide +kernel
theorem dX3_digest_49 : decode cX3_digest 49 = .ok (.iload 4, 2) := by decide +kernel
theorem dX3_digest_51 : decode cX3_digest 51 = .ok (.bipush 7, 2) := by decide +kernel
theorem dX3_digest_53 : decode cX3_digest 53 = .ok (.if_icmp .gt 22, 3) := by decide +kernel
theorem dX3_digest_56 : decode cX3_digest 56 = .ok (.lload_n 1, 1) := by decide +kernel
theorem dX3_digest_57 : decode cX3_digest 57 = .ok (.aload_n 0, 1) := by decide +kernel
theorem dX3_digest_58 : decode cX3_digest 58 = .ok (.iload_n 3, 1) := by decide +kernel
theorem dX3_digest_59 : decode cX3_digest 59 = .ok (.iload 4, 2) := by decide +kernel
theorem dX3_digest_61 : decode cX3_digest 61 = .ok (.invokevirtual 186, 3) := by decide +kernel
theorem dX3_digest_64 : decode cX3_digest 64 = .ok (.i2l, 1) := by decide +kernel
theorem dX3_digest_65 : decode cX3_digest 65 = .ok (.invokestatic 178, 3) := by decide +kernel
theorem dX3_digest_68 : decode cX3_digest 68 = .ok (.lstore_n 1, 1) := by decide +kernel
theorem dX3_digest_69 : decode cX3_digest 69 = .ok (.iinc 4 1, 3) := by decide +kernel
theorem dX3_digest_72 : decode cX3_digest 72 = .ok (.goto (-23), 3) := by decide +kernel
theorem dX3_digest_75 : decode cX3_digest 75 = .ok (.lload_n 1, 1) := by decide +kernel
theorem dX3_digest_76 : decode cX3_digest 76 = .ok (.aload_n 0, 1) := by decide +kernel
theorem dX3_digest_77 : decode cX3_digest 77 = .ok (.iload_n 3, 1) := by decide +kernel
theorem dX3_digest_78 : decode cX3_digest 78 = .ok (.iconst 0, 1) := by decide +kernel
theorem dX3_digest_79 : decode cX3_digest 79 = .ok (.invokevirtual 189, 3) := by decide +kernel
theorem dX3_digest_82 : decode cX3_digest 82 = .ok (.i2l, 1) := by decide +kernel
theorem dX3_digest_83 : decode cX3_digest 83 = .ok (.invokestatic 178, 3) := by decide +kernel
theorem dX3_digest_86 : decode cX3_digest 86 = .ok (.lstore_n 1, 1) := by decide +kernel
theorem dX3_digest_87 : decode cX3_digest 87 = .ok (.lload_n 1, 1) := by decide +kernel
theorem dX3_digest_88 : decode cX3_digest 88 = .ok (.aload_n 0, 1) := by decide +kernel
theorem dX3_digest_89 : decode cX3_digest 89 = .ok (.iload_n 3, 1) := by decide +kernel
theorem dX3_digest_90 : decode cX3_digest 90 = .ok (.bipush 7, 2) := by decide +kernel
theorem dX3_digest_92 : decode cX3_digest 92 = .ok (.invokevirtual 189, 3) := by decide +kernel
theorem dX3_digest_95 : decode cX3_digest 95 = .ok (.i2l, 1) := by decide +kernel
theorem dX3_digest_96 : decode cX3_digest 96 = .ok (.invokestatic 178, 3) := by decide +kernel
theorem dX3_digest_99 : decode cX3_digest 99 = .ok (.lstore_n 1, 1) := by decide +kernel
theorem dX3_digest_100 : decode cX3_digest 100 = .ok (.lload_n 1, 1) := by decide +kernel
theorem dX3_digest_101 : decode cX3_digest 101 = .ok (.aload_n 0, 1) := by decide +kernel
theorem dX3_digest_102 : decode cX3_digest 102 = .ok (.iload_n 3, 1) := by decide +kernel
theorem dX3_digest_103 : decode cX3_digest 103 = .ok (.bipush 15, 2) := by decide +kernel
theorem dX3_digest_105 : decode cX3_digest 105 = .ok (.invokevirtual 189, 3) := by decide +kernel
theorem dX3_digest_108 : decode cX3_digest 108 = .ok (.i2l, 1) := by decide +kernel
theorem dX3_digest_109 : decode cX3_digest 109 = .ok (.invokestatic 178, 3) := by decide +kernel
theorem dX3_digest_112 : decode cX3_digest 112 = .ok (.lstore_n 1, 1) := by decide +kernel
theorem dX3_digest_113 : decode cX3_digest 113 = .ok (.lload_n 1, 1) := by decide +kernel
theorem dX3_digest_114 : decode cX3_digest 114 = .ok (.aload_n 0, 1) := by decide +kernel
theorem dX3_digest_115 : decode cX3_digest 115 = .ok (.iload_n 3, 1) := by decide +kernel
theorem dX3_digest_116 : decode cX3_digest 116 = .ok (.iconst 1, 1) := by decide +kernel
theorem dX3_digest_117 : decode cX3_digest 117 = .ok (.invokevirtual 192, 3) := by decide +kernel
theorem dX3_digest_120 : decode cX3_digest 120 = .ok (.i2l, 1) := by decide +kernel
theorem dX3_digest_121 : decode cX3_digest 121 = .ok (.invokestatic 178, 3) := by decide +kernel
theorem dX3_digest_124 : decode cX3_digest 124 = .ok (.lstore_n 1, 1) := by decide +kernel
theorem dX3_digest_125 : decode cX3_digest 125 = .ok (.lload_n 1, 1) := by decide +kernel
theorem dX3_digest_126 : decode cX3_digest 126 = .ok (.aload_n 0, 1) := by decide +kernel
theorem dX3_digest_127 : decode cX3_digest 127 = .ok (.iload_n 3, 1) := by decide +kernel
theorem dX3_digest_128 : decode cX3_digest 128 = .ok (.bipush 6, 2) := by decide +kernel
theorem dX3_digest_130 : decode cX3_digest 130 = .ok (.invokevirtual 192, 3) := by decide +kernel
theorem dX3_digest_133 : decode cX3_digest 133 = .ok (.i2l, 1) := by decide +kernel
theorem dX3_digest_134 : decode cX3_digest 134 = .ok (.invokestatic 178, 3) := by decide +kernel
theorem dX3_digest_137 : decode cX3_digest 137 = .ok (.lstore_n 1, 1) := by decide +kernel
theorem dX3_digest_138 : decode cX3_digest 138 = .ok (.lload_n 1, 1) := by decide +kernel
theorem dX3_digest_139 : decode cX3_digest 139 = .ok (.aload_n 0, 1) := by decide +kernel
theorem dX3_digest_140 : decode cX3_digest 140 = .ok (.iload_n 3, 1) := by decide +kernel
theorem dX3_digest_141 : decode cX3_digest 141 = .ok (.iconst (-1), 1) := by decide +kernel
theorem dX3_digest_142 : decode cX3_digest 142 = .ok (.invokevirtual 192, 3) := by decide +kernel
theorem dX3_digest_145 : decode cX3_digest 145 = .ok (.i2l, 1) := by decide +kernel
theorem dX3_digest_146 : decode cX3_digest 146 = .ok (.invokestatic 178, 3) := by decide +kernel
theorem dX3_digest_149 : decode cX3_digest 149 = .ok (.lstore_n 1, 1) := by decide +kernel
theorem dX3_digest_150 : decode cX3_digest 150 = .ok (.lload_n 1, 1) := by decide +kernel
theorem dX3_digest_151 : decode cX3_digest 151 = .ok (.aload_n 0, 1) := by decide +kernel
theorem dX3_digest_152 : decode cX3_digest 152 = .ok (.iload_n 3, 1) := by decide +kernel
theorem dX3_digest_153 : decode cX3_digest 153 = .ok (.bipush (-6), 2) := by decide +kernel
theorem dX3_digest_155 : decode cX3_digest 155 = .ok (.invokevirtual 192, 3) := by decide +kernel
theorem dX3_digest_158 : decode cX3_digest 158 = .ok (.i2l, 1) := by decide +kernel
theorem dX3_digest_159 : decode cX3_digest 159 = .ok (.invokestatic 178, 3) := by decide +kernel
theorem dX3_digest_162 : decode cX3_digest 162 = .ok (.lstore_n 1, 1) := by decide +kernel
theorem dX3_digest_163 : decode cX3_digest 163 = .ok (.iinc 3 1, 3) := by decide +kernel
theorem dX3_digest_166 : decode cX3_digest 166 = .ok (.goto (-126), 3) := by decide +kernel
theorem dX3_digest_169 : decode cX3_digest 169 = .ok (.lload_n 1, 1) := by decide +kernel
theorem dX3_digest_170 : decode cX3_digest 170 = .ok (.aload_n 0, 1) := by decide +kernel
theorem dX3_digest_171 : decode cX3_digest 171 = .ok (.iconst 0, 1) := by decide +kernel
theorem dX3_digest_172 : decode cX3_digest 172 = .ok (.invokevirtual 195, 3) := by decide +kernel
theorem dX3_digest_175 : decode cX3_digest 175 = .ok (.i2l, 1) := by decide +kernel
theorem dX3_digest_176 : decode cX3_digest 176 = .ok (.invokestatic 178, 3) := by decide +kernel
theorem dX3_digest_179 : decode cX3_digest 179 = .ok (.lstore_n 1, 1) := by decide +kernel
theorem dX3_digest_180 : decode cX3_digest 180 = .ok (.lload_n 1, 1) := by decide +kernel
theorem dX3_digest_181 : decode cX3_digest 181 = .ok (.aload_n 0, 1) := by decide +kernel
theorem dX3_digest_182 : decode cX3_digest 182 = .ok (.ldc 198, 2) := by decide +kernel
theorem dX3_digest_184 : decode cX3_digest 184 = .ok (.invokevirtual 195, 3) := by decide +kernel
theorem dX3_digest_187 : decode cX3_digest 187 = .ok (.i2l, 1) := by decide +kernel
theorem dX3_digest_188 : decode cX3_digest 188 = .ok (.invokestatic 178, 3) := by decide +kernel
theorem dX3_digest_191 : decode cX3_digest 191 = .ok (.lstore_n 1, 1) := by decide +kernel
theorem dX3_digest_192 : decode cX3_digest 192 = .ok (.lload_n 1, 1) := by decide +kernel
theorem dX3_digest_193 : decode cX3_digest 193 = .ok (.aload_n 0, 1) := by decide +kernel
theorem dX3_digest_194 : decode cX3_digest 194 = .ok (.invokevirtual 199, 3) := by decide +kernel
theorem dX3_digest_197 : decode cX3_digest 197 = .ok (.i2l, 1) := by decide +kernel
theorem dX3_digest_198 : decode cX3_digest 198 = .ok (.invokestatic 178, 3) := by decide +kernel
theorem dX3_digest_201 : decode cX3_digest 201 = .ok (.lstore_n 1, 1) := by decide +kernel
theorem dX3_digest_202 : decode cX3_digest 202 = .ok (.lload_n 1, 1) := by decide +kernel
theorem dX3_digest_203 : decode cX3_digest 203 = .ok (.aload_n 0, 1) := by decide +kernel
theorem dX3_digest_204 : decode cX3_digest 204 = .ok (.invokevirtual 202, 3) := by decide +kernel
theorem dX3_digest_207 : decode cX3_digest 207 = .ok (.invokestatic 206, 3) := by decide +kernel
theorem dX3_digest_210 : decode cX3_digest 210 = .ok (.invokestatic 178, 3) := by decide +kernel
theorem dX3_digest_213 : decode cX3_digest 213 = .ok (.lstore_n 1, 1) := by decide +kernel
theorem dX3_digest_214 : decode cX3_digest 214 = .ok (.lload_n 1, 1) := by decide +kernel
theorem dX3_digest_215 : decode cX3_digest 215 = .ok (.aload_n 0, 1) := by decide +kernel
theorem dX3_digest_216 : decode cX3_digest 216 = .ok (.getfield 26, 3) := by decide +kernel
theorem dX3_digest_219 : decode cX3_digest 219 = .ok (.getfield 85, 3) := by decide +kernel
theorem dX3_digest_222 : decode cX3_digest 222 = .ok (.i2l, 1) := by decide +kernel
theorem dX3_digest_223 : decode cX3_digest 223 = .ok (.invokestatic 178, 3) := by decide +kernel
theorem dX3_digest_226 : decode cX3_digest 226 = .ok (.lstore_n 1, 1) := by decide +kernel
theorem dX3_digest_227 : decode cX3_digest 227 = .ok (.iconst 0, 1) := by decide +kernel
theorem dX3_digest_228 : decode cX3_digest 228 = .ok (.istore_n 3, 1) := by decide +kernel
theorem dX3_digest_229 : decode cX3_digest 229 = .ok (.iload_n 3, 1) := by decide +kernel
theorem dX3_digest_230 : decode cX3_digest 230 = .ok (.aload_n 0, 1) := by decide +kernel
theorem dX3_digest_231 : decode cX3_digest 231 = .ok (.getfield 26, 3) := by decide +kernel
theorem dX3_digest_234 : decode cX3_digest 234 = .ok (.getfield 85, 3) := by decide +kernel
theorem dX3_digest_237 : decode cX3_digest 237 = .ok (.if_icmp .ge 30, 3) := by decide +kernel
theorem dX3_digest_240 : decode cX3_digest 240 = .ok (.iload_n 3, 1) := by decide +kernel
theorem dX3_digest_241 : decode cX3_digest 241 = .ok (.bipush 60, 2) := by decide +kernel
theorem dX3_digest_243 : decode cX3_digest 243 = .ok (.if_icmp .ge 24, 3) := by decide +kernel
theorem dX3_digest_246 : decode cX3_digest 246 = .ok (.lload_n 1, 1) := by decide +kernel
theorem dX3_digest_247 : decode cX3_digest 247 = .ok (.aload_n 0, 1) := by decide +kernel
theorem dX3_digest_248 : decode cX3_digest 248 = .ok (.getfield 26, 3) := by decide +kernel
theorem dX3_digest_251 : decode cX3_digest 251 = .ok (.getfield 90, 3) := by decide +kernel
theorem dX3_digest_254 : decode cX3_digest 254 = .ok (.iload_n 3, 1) := by decide +kernel
theorem dX3_digest_255 : decode cX3_digest 255 = .ok (.iaload, 1) := by decide +kernel
theorem dX3_digest_256 : decode cX3_digest 256 = .ok (.i2l, 1) := by decide +kernel
theorem dX3_digest_257 : decode cX3_digest 257 = .ok (.invokestatic 178, 3) := by decide +kernel
theorem dX3_digest_260 : decode cX3_digest 260 = .ok (.lstore_n 1, 1) := by decide +kernel
theorem dX3_digest_261 : decode cX3_digest 261 = .ok (.iinc 3 1, 3) := by decide +kernel
theorem dX3_digest_264 : decode cX3_digest 264 = .ok (.goto (-35), 3) := by decide +kernel
theorem dX3_digest_267 : decode cX3_digest 267 = .ok (.lload_n 1, 1) := by decide +kernel
theorem dX3_digest_268 : decode cX3_digest 268 = .ok (.lreturn, 1) := by decide +kernel
theorem dX3_checkRod_0 : decode cX3_checkRod 0 = .ok (.iload_n 0, 1) := by decide +kernel
theorem dX3_checkRod_1 : decode cX3_checkRod 1 = .ok (.ifCond .lt 9, 3) := by decide +kernel
theorem dX3_checkRod_4 : decode cX3_checkRod 4 = .ok (.iload_n 0, 1) := by decide +kernel
theorem dX3_checkRod_5 : decode cX3_checkRod 5 = .ok (.bipush 9, 2) := by decide +kernel
theorem dX3_checkRod_7 : decode cX3_checkRod 7 = .ok (.if_icmp .lt 13, 3) := by decide +kernel
theorem dX3_checkRod_10 : decode cX3_checkRod 10 = .ok (.new 210, 3) := by decide +kernel
theorem dX3_checkRod_13 : decode cX3_checkRod 13 = .ok (.dup, 1) := by decide +kernel
theorem dX3_checkRod_14 : decode cX3_checkRod 14 = .ok (.ldc 212, 2) := by decide +kernel
theorem dX3_checkRod_16 : decode cX3_checkRod 16 = .ok (.invokespecial 214, 3) := by decide +kernel
theorem dX3_checkRod_19 : decode cX3_checkRod 19 = .ok (.athrow, 1) := by decide +kernel
theorem dX3_checkRod_20 : decode cX3_checkRod 20 = .ok (.return_, 1) := by decide +kernel
theorem dX3_checkRange_0 : decode cX3_checkRange 0 = .ok (.iload_n 0, 1) := by decide +kernel
theorem dX3_checkRange_1 : decode cX3_checkRange 1 = .ok (.iload_n 1, 1) := by decide +kernel
theorem dX3_checkRange_2 : decode cX3_checkRange 2 = .ok (.if_icmp .lt 8, 3) := by decide +kernel
theorem dX3_checkRange_5 : decode cX3_checkRange 5 = .ok (.iload_n 0, 1) := by decide +kernel
theorem dX3_checkRange_6 : decode cX3_checkRange 6 = .ok (.iload_n 2, 1) := by decide +kernel
theorem dX3_checkRange_7 : decode cX3_checkRange 7 = .ok (.if_icmp .le 13, 3) := by decide +kernel
theorem dX3_checkRange_10 : decode cX3_checkRange 10 = .ok (.new 101, 3) := by decide +kernel
theorem dX3_checkRange_13 : decode cX3_checkRange 13 = .ok (.dup, 1) := by decide +kernel
theorem dX3_checkRange_14 : decode cX3_checkRange 14 = .ok (.ldc 215, 2) := by decide +kernel
theorem dX3_checkRange_16 : decode cX3_checkRange 16 = .ok (.invokespecial 105, 3) := by decide +kernel
theorem dX3_checkRange_19 : decode cX3_checkRange 19 = .ok (.athrow, 1) := by decide +kernel
theorem dX3_checkRange_20 : decode cX3_checkRange 20 = .ok (.return_, 1) := by decide +kernel
set_option maxRecDepth 20000 in
theorem ggX3_changeOrThrow_X0_change : GoodIn wsX3_changeOrThrow wsX0_change := goodIn_r _ [9, 10, 11, 12, 8, 13, 14, 15, 16, 17, 18, 19, 20, 21, 22, 23, 24, 25, 26, 27, 28, 29, 30, 31, 32, 33, 34, 35, 36, 37, 38, 39, 40, 41, 42, 43, 44, 60, 61, 62, 63, 64, 65, 66] (by decide +kernel) (by decide +kernel)
set_option maxRecDepth 20000 in
theorem gX3_changeOrThrow_X0_change : GoodIn wsX3_changeOrThrow (wsV RX3 72 RX0 yX0_change wsX0_change) := goodIn_app (goodIn_of _ (by decide +kernel)) ggX3_changeOrThrow_X0_change
set_option maxRecDepth 20000 in
theorem ggX3_changeOrThrow_X1_keep : GoodIn wsX3_changeOrThrow wsX1_keep := goodIn_r _ [49, 50, 51, 52, 53, 54, 55, 8, 56, 14, 15, 28, 42, 33, 44, 43, 67, 68, 69, 60, 61, 62, 63, 64, 65, 66] (by decide +kernel) (by decide +kernel)
set_option maxRecDepth 20000 in
theorem gX3_changeOrThrow_X1_keep : GoodIn wsX3_changeOrThrow (wsV RX3 49 RX1 yX1_keep wsX1_keep) := goodIn_app (goodIn_of _ (by decide +kernel)) ggX3_changeOrThrow_X1_keep
theorem dX3_changeOrThrow_0 : decode cX3_changeOrThrow 0 = .ok (.aload_n 0, 1) := by decide +kernel
theorem dX3_changeOrThrow_1 : decode cX3_changeOrThrow 1 = .ok (.getfield 12, 3) := by decide +kernel
theorem dX3_changeOrThrow_4 : decode cX3_changeOrThrow 4 = .ok (.iload_n 1, 1) := by decide +kernel
theorem dX3_changeOrThrow_5 : decode cX3_changeOrThrow 5 = .ok (.iload_n 2, 1) := by decide +kernel
theorem dX3_changeOrThrow_6 : decode cX3_changeOrThrow 6 = .ok (.iconst 0, 1) := by decide +kernel
theorem dX3_changeOrThrow_7 : decode cX3_changeOrThrow 7 = .ok (.invokevirtual 72, 3) := by decide +kernel
theorem dX3_changeOrThrow_10 : decode cX3_changeOrThrow 10 = .ok (.iconst (-1), 1) := by decide +kernel
theorem dX3_changeOrThrow_11 : decode cX3_changeOrThrow 11 = .ok (.if_icmp .ne 13, 3) := by decide +kernel
theorem dX3_changeOrThrow_14 : decode cX3_changeOrThrow 14 = .ok (.new 42, 3) := by decide +kernel
theorem dX3_changeOrThrow_17 : decode cX3_changeOrThrow 17 = .ok (.dup, 1) := by decide +kernel
theorem dX3_changeOrThrow_18 : decode cX3_changeOrThrow 18 = .ok (.ldc 217, 2) := by decide +kernel
theorem dX3_changeOrThrow_20 : decode cX3_changeOrThrow 20 = .ok (.invokespecial 46, 3) := by decide +kernel
theorem dX3_changeOrThrow_23 : decode cX3_changeOrThrow 23 = .ok (.athrow, 1) := by decide +kernel
theorem dX3_changeOrThrow_24 : decode cX3_changeOrThrow 24 = .ok (.aload_n 0, 1) := by decide +kernel
theorem dX3_changeOrThrow_25 : decode cX3_changeOrThrow 25 = .ok (.getfield 19, 3) := by decide +kernel
theorem dX3_changeOrThrow_28 : decode cX3_changeOrThrow 28 = .ok (.aload_n 0, 1) := by decide +kernel
theorem dX3_changeOrThrow_29 : decode cX3_changeOrThrow 29 = .ok (.getfield 12, 3) := by decide +kernel
theorem dX3_changeOrThrow_32 : decode cX3_changeOrThrow 32 = .ok (.invokevirtual 49, 3) := by decide +kernel
theorem dX3_changeOrThrow_35 : decode cX3_changeOrThrow 35 = .ok (.aload_n 0, 1) := by decide +kernel
theorem dX3_changeOrThrow_36 : decode cX3_changeOrThrow 36 = .ok (.getfield 12, 3) := by decide +kernel
theorem dX3_changeOrThrow_39 : decode cX3_changeOrThrow 39 = .ok (.iload_n 1, 1) := by decide +kernel
theorem dX3_changeOrThrow_40 : decode cX3_changeOrThrow 40 = .ok (.iload_n 2, 1) := by decide +kernel
theorem dX3_changeOrThrow_41 : decode cX3_changeOrThrow 41 = .ok (.iconst 1, 1) := by decide +kernel
theorem dX3_changeOrThrow_42 : decode cX3_changeOrThrow 42 = .ok (.invokevirtual 72, 3) := by decide +kernel
theorem dX3_changeOrThrow_45 : decode cX3_changeOrThrow 45 = .ok (.ireturn, 1) := by decide +kernel
set_option maxRecDepth 20000 in
theorem ggX3_reckonTerm_X0_change : GoodIn wsX3_reckonTerm wsX0_change := goodIn_r _ [8, 9, 10, 11, 7, 12, 13, 14, 15, 16, 17, 18, 19, 20, 21, 22, 23, 24, 25, 26, 27, 28, 29, 30, 31, 32, 33, 34, 35, 36, 37, 38, 39, 40, 41, 42, 43, 49, 50, 51, 52, 53, 54, 55] (by decide +kernel) (by decide +kernel)
set_option maxRecDepth 20000 in
theorem gX3_reckonTerm_X0_change : GoodIn wsX3_reckonTerm (wsV RX3 72 RX0 yX0_change wsX0_change) := goodIn_app (goodIn_of _ (by decide +kernel)) ggX3_reckonTerm_X0_change
theorem dX3_reckonTerm_0 : decode cX3_reckonTerm 0 = .ok (.aload_n 0, 1) := by decide +kernel
theorem dX3_reckonTerm_1 : decode cX3_reckonTerm 1 = .ok (.getfield 26, 3) := by decide +kernel
theorem dX3_reckonTerm_4 : decode cX3_reckonTerm 4 = .ok (.getfield 90, 3) := by decide +kernel
theorem dX3_reckonTerm_7 : decode cX3_reckonTerm 7 = .ok (.iload_n 1, 1) := by decide +kernel
theorem dX3_reckonTerm_8 : decode cX3_reckonTerm 8 = .ok (.iaload, 1) := by decide +kernel
theorem dX3_reckonTerm_9 : decode cX3_reckonTerm 9 = .ok (.bipush 45, 2) := by decide +kernel
theorem dX3_reckonTerm_11 : decode cX3_reckonTerm 11 = .ok (.if_icmp .ne 7, 3) := by decide +kernel
theorem dX3_reckonTerm_14 : decode cX3_reckonTerm 14 = .ok (.iconst (-1), 1) := by decide +kernel
theorem dX3_reckonTerm_15 : decode cX3_reckonTerm 15 = .ok (.goto 4, 3) := by decide +kernel
theorem dX3_reckonTerm_18 : decode cX3_reckonTerm 18 = .ok (.iconst 1, 1) := by decide +kernel
theorem dX3_reckonTerm_19 : decode cX3_reckonTerm 19 = .ok (.istore_n 3, 1) := by decide +kernel
theorem dX3_reckonTerm_20 : decode cX3_reckonTerm 20 = .ok (.iconst 0, 1) := by decide +kernel
theorem dX3_reckonTerm_21 : decode cX3_reckonTerm 21 = .ok (.istore 4, 2) := by decide +kernel
theorem dX3_reckonTerm_23 : decode cX3_reckonTerm 23 = .ok (.iload 4, 2) := by decide +kernel
theorem dX3_reckonTerm_25 : decode cX3_reckonTerm 25 = .ok (.iload_n 2, 1) := by decide +kernel
theorem dX3_reckonTerm_26 : decode cX3_reckonTerm 26 = .ok (.if_icmp .ge 69, 3) := by decide +kernel
theorem dX3_reckonTerm_29 : decode cX3_reckonTerm 29 = .ok (.iload 4, 2) := by decide +kernel
theorem dX3_reckonTerm_31 : decode cX3_reckonTerm 31 = .ok (.bipush 9, 2) := by decide +kernel
theorem dX3_reckonTerm_33 : decode cX3_reckonTerm 33 = .ok (.if_icmp .ge 62, 3) := by decide +kernel
theorem dX3_reckonTerm_36 : decode cX3_reckonTerm 36 = .ok (.iload_n 3, 1) := by decide +kernel
theorem dX3_reckonTerm_37 : decode cX3_reckonTerm 37 = .ok (.aload_n 0, 1) := by decide +kernel
theorem dX3_reckonTerm_38 : decode cX3_reckonTerm 38 = .ok (.getfield 26, 3) := by decide +kernel
theorem dX3_reckonTerm_41 : decode cX3_reckonTerm 41 = .ok (.getfield 90, 3) := by decide +kernel
theorem dX3_reckonTerm_44 : decode cX3_reckonTerm 44 = .ok (.iload_n 1, 1) := by decide +kernel
theorem dX3_reckonTerm_45 : decode cX3_reckonTerm 45 = .ok (.iload_n 2, 1) := by decide +kernel
theorem dX3_reckonTerm_46 : decode cX3_reckonTerm 46 = .ok (.iadd, 1) := by decide +kernel
theorem dX3_reckonTerm_47 : decode cX3_reckonTerm 47 = .ok (.iload 4, 2) := by decide +kernel
theorem dX3_reckonTerm_49 : decode cX3_reckonTerm 49 = .ok (.isub, 1) := by decide +kernel
theorem dX3_reckonTerm_50 : decode cX3_reckonTerm 50 = .ok (.iaload, 1) := by decide +kernel
theorem dX3_reckonTerm_51 : decode cX3_reckonTerm 51 = .ok (.bipush 48, 2) := by decide +kernel
theorem dX3_reckonTerm_53 : decode cX3_reckonTerm 53 = .ok (.isub, 1) := by decide +kernel
theorem dX3_reckonTerm_54 : decode cX3_reckonTerm 54 = .ok (.imul, 1) := by decide +kernel
theorem dX3_reckonTerm_55 : decode cX3_reckonTerm 55 = .ok (.istore 5, 2) := by decide +kernel
theorem dX3_reckonTerm_57 : decode cX3_reckonTerm 57 = .ok (.aload_n 0, 1) := by decide +kernel
theorem dX3_reckonTerm_58 : decode cX3_reckonTerm 58 = .ok (.getfield 12, 3) := by decide +kernel
theorem dX3_reckonTerm_61 : decode cX3_reckonTerm 61 = .ok (.iload 4, 2) := by decide +kernel
theorem dX3_reckonTerm_63 : decode cX3_reckonTerm 63 = .ok (.iload 5, 2) := by decide +kernel
theorem dX3_reckonTerm_65 : decode cX3_reckonTerm 65 = .ok (.iconst 0, 1) := by decide +kernel
theorem dX3_reckonTerm_66 : decode cX3_reckonTerm 66 = .ok (.invokevirtual 72, 3) := by decide +kernel
theorem dX3_reckonTerm_69 : decode cX3_reckonTerm 69 = .ok (.iconst (-1), 1) := by decide +kernel
theorem dX3_reckonTerm_70 : decode cX3_reckonTerm 70 = .ok (.if_icmp .ne 6, 3) := by decide +kernel
theorem dX3_reckonTerm_73 : decode cX3_reckonTerm 73 = .ok (.iload 4, 2) := by decide +kernel
theorem dX3_reckonTerm_75 : decode cX3_reckonTerm 75 = .ok (.ireturn, 1) := by decide +kernel
theorem dX3_reckonTerm_76 : decode cX3_reckonTerm 76 = .ok (.aload_n 0, 1) := by decide +kernel
theorem dX3_reckonTerm_77 : decode cX3_reckonTerm 77 = .ok (.getfield 12, 3) := by decide +kernel
theorem dX3_reckonTerm_80 : decode cX3_reckonTerm 80 = .ok (.iload 4, 2) := by decide +kernel
theorem dX3_reckonTerm_82 : decode cX3_reckonTerm 82 = .ok (.iload 5, 2) := by decide +kernel
theorem dX3_reckonTerm_84 : decode cX3_reckonTerm 84 = .ok (.iconst 1, 1) := by decide +kernel
theorem dX3_reckonTerm_85 : decode cX3_reckonTerm 85 = .ok (.invokevirtual 72, 3) := by decide +kernel
theorem dX3_reckonTerm_88 : decode cX3_reckonTerm 88 = .ok (.pop, 1) := by decide +kernel
theorem dX3_reckonTerm_89 : decode cX3_reckonTerm 89 = .ok (.iinc 4 1, 3) := by decide +kernel
theorem dX3_reckonTerm_92 : decode cX3_reckonTerm 92 = .ok (.goto (-69), 3) := by decide +kernel
theorem dX3_reckonTerm_95 : decode cX3_reckonTerm 95 = .ok (.iload_n 2, 1) := by decide +kernel
theorem dX3_reckonTerm_96 : decode cX3_reckonTerm 96 = .ok (.ireturn, 1) := by decide +kernel
theorem dX3_isSign_0 : decode cX3_isSign 0 = .ok (.iload_n 0, 1) := by decide +kernel
theorem dX3_isSign_1 : decode cX3_isSign 1 = .ok (.bipush 43, 2) := by decide +kernel
theorem dX3_isSign_3 : decode cX3_isSign 3 = .ok (.if_icmp .eq 9, 3) := by decide +kernel
theorem dX3_isSign_6 : decode cX3_isSign 6 = .ok (.iload_n 0, 1) := by decide +kernel
theorem dX3_isSign_7 : decode cX3_isSign 7 = .ok (.bipush 45, 2) := by decide +kernel
theorem dX3_isSign_9 : decode cX3_isSign 9 = .ok (.if_icmp .ne 7, 3) := by decide +kernel
theorem dX3_isSign_12 : decode cX3_isSign 12 = .ok (.iconst 1, 1) := by decide +kernel
theorem dX3_isSign_13 : decode cX3_isSign 13 = .ok (.goto 4, 3) := by decide +kernel
theorem dX3_isSign_16 : decode cX3_isSign 16 = .ok (.iconst 0, 1) := by decide +kernel
theorem dX3_isSign_17 : decode cX3_isSign 17 = .ok (.ireturn, 1) := by decide +kernel
theorem dX3_isDigit_0 : decode cX3_isDigit 0 = .ok (.iload_n 0, 1) := by decide +kernel
theorem dX3_isDigit_1 : decode cX3_isDigit 1 = .ok (.bipush 48, 2) := by decide +kernel
theorem dX3_isDigit_3 : decode cX3_isDigit 3 = .ok (.if_icmp .lt 13, 3) := by decide +kernel
theorem dX3_isDigit_6 : decode cX3_isDigit 6 = .ok (.iload_n 0, 1) := by decide +kernel
theorem dX3_isDigit_7 : decode cX3_isDigit 7 = .ok (.bipush 57, 2) := by decide +kernel
theorem dX3_isDigit_9 : decode cX3_isDigit 9 = .ok (.if_icmp .gt 7, 3) := by decide +kernel
theorem dX3_isDigit_12 : decode cX3_isDigit 12 = .ok (.iconst 1, 1) := by decide +kernel
theorem dX3_isDigit_13 : decode cX3_isDigit 13 = .ok (.goto 4, 3) := by decide +kernel
theorem dX3_isDigit_16 : decode cX3_isDigit 16 = .ok (.iconst 0, 1) := by decide +kernel
theorem dX3_isDigit_17 : decode cX3_isDigit 17 = .ok (.ireturn, 1) := by decide +kernel
theorem dX3_mixed_0 : decode cX3_mixed 0 = .ok (.ldc2_w 219, 3) := by decide +kernel
theorem dX3_mixed_3 : decode cX3_mixed 3 = .ok (.lload_n 0, 1) := by decide +kernel
theorem dX3_mixed_4 : decode cX3_mixed 4 = .ok (.lmul, 1) := by decide +kernel
theorem dX3_mixed_5 : decode cX3_mixed 5 = .ok (.lload_n 2, 1) := by decide +kernel
theorem dX3_mixed_6 : decode cX3_mixed 6 = .ok (.ladd, 1) := by decide +kernel
theorem dX3_mixed_7 : decode cX3_mixed 7 = .ok (.lreturn, 1) := by decide +kernel
theorem dX3_bitsOf_0 : decode cX3_bitsOf 0 = .ok (.dload_n 0, 1) := by decide +kernel
theorem dX3_bitsOf_1 : decode cX3_bitsOf 1 = .ok (.dstore_n 2, 1) := by decide +kernel
theorem dX3_bitsOf_2 : decode cX3_bitsOf 2 = .ok (.ldc2_w 221, 3) := by decide +kernel
theorem dX3_bitsOf_5 : decode cX3_bitsOf 5 = .ok (.lstore 4, 2) := by decide +kernel
theorem dX3_bitsOf_7 : decode cX3_bitsOf 7 = .ok (.dload_n 2, 1) := by decide +kernel
theorem dX3_bitsOf_8 : decode cX3_bitsOf 8 = .ok (.dconst 1, 1) := by decide +kernel
theorem dX3_bitsOf_9 : decode cX3_bitsOf 9 = .ok (.dcmp .g, 1) := by decide +kernel
theorem dX3_bitsOf_10 : decode cX3_bitsOf 10 = .ok (.ifCond .ge 25, 3) := by decide +kernel
theorem dX3_bitsOf_13 : decode cX3_bitsOf 13 = .ok (.lload 4, 2) := by decide +kernel
theorem dX3_bitsOf_15 : decode cX3_bitsOf 15 = .ok (.lconst 0, 1) := by decide +kernel
theorem dX3_bitsOf_16 : decode cX3_bitsOf 16 = .ok (.lcmp, 1) := by decide +kernel
theorem dX3_bitsOf_17 : decode cX3_bitsOf 17 = .ok (.ifCond .le 18, 3) := by decide +kernel
theorem dX3_bitsOf_20 : decode cX3_bitsOf 20 = .ok (.dload_n 2, 1) := by decide +kernel
theorem dX3_bitsOf_21 : decode cX3_bitsOf 21 = .ok (.ldc2_w 223, 3) := by decide +kernel
theorem dX3_bitsOf_24 : decode cX3_bitsOf 24 = .ok (.dmul, 1) := by decide +kernel
theorem dX3_bitsOf_25 : decode cX3_bitsOf 25 = .ok (.dstore_n 2, 1) := by decide +kernel
theorem dX3_bitsOf_26 : decode cX3_bitsOf 26 = .ok (.lload 4, 2) := by decide +kernel
theorem dX3_bitsOf_28 : decode cX3_bitsOf 28 = .ok (.lconst 1, 1) := by decide +kernel
theorem dX3_bitsOf_29 : decode cX3_bitsOf 29 = .ok (.lsub, 1) := by decide +kernel
theorem dX3_bitsOf_30 : decode cX3_bitsOf 30 = .ok (.lstore 4, 2) := by decide +kernel
theorem dX3_bitsOf_32 : decode cX3_bitsOf 32 = .ok (.goto (-25), 3) := by decide +kernel
theorem dX3_bitsOf_35 : decode cX3_bitsOf 35 = .ok (.lload 4, 2) := by decide +kernel
theorem dX3_bitsOf_37 : decode cX3_bitsOf 37 = .ok (.bipush 52, 2) := by decide +kernel
theorem dX3_bitsOf_39 : decode cX3_bitsOf 39 = .ok (.lshl, 1) := by decide +kernel
theorem dX3_bitsOf_40 : decode cX3_bitsOf 40 = .ok (.dload_n 2, 1) := by decide +kernel
theorem dX3_bitsOf_41 : decode cX3_bitsOf 41 = .ok (.dconst 1, 1) := by decide +kernel
theorem dX3_bitsOf_42 : decode cX3_bitsOf 42 = .ok (.dsub, 1) := by decide +kernel
theorem dX3_bitsOf_43 : decode cX3_bitsOf 43 = .ok (.ldc2_w 225, 3) := by decide +kernel
theorem dX3_bitsOf_46 : decode cX3_bitsOf 46 = .ok (.dmul, 1) := by decide +kernel
theorem dX3_bitsOf_47 : decode cX3_bitsOf 47 = .ok (.d2l, 1) := by decide +kernel
theorem dX3_bitsOf_48 : decode cX3_bitsOf 48 = .ok (.ladd, 1) := by decide +kernel
theorem dX3_bitsOf_49 : decode cX3_bitsOf 49 = .ok (.lreturn, 1) := by decide +kernel
theorem dX4_init_0 : decode cX4_init 0 = .ok (.aload_n 0, 1) := by decide +kernel
theorem dX4_init_1 : decode cX4_init 1 = .ok (.invokespecial 1, 3) := by decide +kernel
theorem dX4_init_4 : decode cX4_init 4 = .ok (.aload_n 0, 1) := by decide +kernel
theorem dX4_init_5 : decode cX4_init 5 = .ok (.bipush 55, 2) := by decide +kernel
theorem dX4_init_7 : decode cX4_init 7 = .ok (.newarray .int, 2) := by decide +kernel
theorem dX4_init_9 : decode cX4_init 9 = .ok (.putfield 7, 3) := by decide +kernel
theorem dX4_init_12 : decode cX4_init 12 = .ok (.aload_n 0, 1) := by decide +kernel
theorem dX4_init_13 : decode cX4_init 13 = .ok (.bipush 55, 2) := by decide +kernel
theorem dX4_init_15 : decode cX4_init 15 = .ok (.newarray .int, 2) := by decide +kernel
theorem dX4_init_17 : decode cX4_init 17 = .ok (.putfield 13, 3) := by decide +kernel
theorem dX4_init_20 : decode cX4_init 20 = .ok (.aload_n 0, 1) := by decide +kernel
theorem dX4_init_21 : decode cX4_init 21 = .ok (.sipush 330, 3) := by decide +kernel
theorem dX4_init_24 : decode cX4_init 24 = .ok (.newarray .int, 2) := by decide +kernel
theorem dX4_init_26 : decode cX4_init 26 = .ok (.putfield 16, 3) := by decide +kernel
theorem dX4_init_29 : decode cX4_init 29 = .ok (.aload_n 0, 1) := by decide +kernel
theorem dX4_init_30 : decode cX4_init 30 = .ok (.bipush 60, 2) := by decide +kernel
theorem dX4_init_32 : decode cX4_init 32 = .ok (.newarray .int, 2) := by decide +kernel
theorem dX4_init_34 : decode cX4_init 34 = .ok (.putfield 19, 3) := by decide +kernel
theorem dX4_init_37 : decode cX4_init 37 = .ok (.aload_n 0, 1) := by decide +kernel
theorem dX4_init_38 : decode cX4_init 38 = .ok (.getfield 7, 3) := by decide +kernel
theorem dX4_init_41 : decode cX4_init 41 = .ok (.iconst 0, 1) := by decide +kernel
theorem dX4_init_42 : decode cX4_init 42 = .ok (.iconst 3, 1) := by decide +kernel
theorem dX4_init_43 : decode cX4_init 43 = .ok (.iastore, 1) := by decide +kernel
theorem dX4_init_44 : decode cX4_init 44 = .ok (.return_, 1) := by decide +kernel
theorem dX4_thrown_0 : decode cX4_thrown 0 = .ok (.aload_n 0, 1) := by decide +kernel
theorem dX4_thrown_1 : decode cX4_thrown 1 = .ok (.getfield 22, 3) := by decide +kernel
theorem dX4_thrown_4 : decode cX4_thrown 4 = .ok (.ireturn, 1) := by decide +kernel
theorem dX4_in_0 : decode cX4_in 0 = .ok (.iload_n 0, 1) := by decide +kernel
theorem dX4_in_1 : decode cX4_in 1 = .ok (.iload_n 1, 1) := by decide +kernel
theorem dX4_in_2 : decode cX4_in 2 = .ok (.if_icmp .lt 12, 3) := by decide +kernel
theorem dX4_in_5 : decode cX4_in 5 = .ok (.iload_n 0, 1) := by decide +kernel
theorem dX4_in_6 : decode cX4_in 6 = .ok (.iload_n 2, 1) := by decide +kernel
theorem dX4_in_7 : decode cX4_in 7 = .ok (.if_icmp .gt 7, 3) := by decide +kernel
theorem dX4_in_10 : decode cX4_in 10 = .ok (.iconst 1, 1) := by decide +kernel
theorem dX4_in_11 : decode cX4_in 11 = .ok (.goto 4, 3) := by decide +kernel
theorem dX4_in_14 : decode cX4_in 14 = .ok (.iconst 0, 1) := by decide +kernel
theorem dX4_in_15 : decode cX4_in 15 = .ok (.ireturn, 1) := by decide +kernel
theorem dX4_holds_0 : decode cX4_holds 0 = .ok (.aload_n 0, 1) := by decide +kernel
theorem dX4_holds_1 : decode cX4_holds 1 = .ok (.iload_n 1, 1) := by decide +kernel
theorem dX4_holds_2 : decode cX4_holds 2 = .ok (.putfield 22, 3) := by decide +kernel
theorem dX4_holds_5 : decode cX4_holds 5 = .ok (.iload_n 1, 1) := by decide +kernel
theorem dX4_holds_6 : decode cX4_holds 6 = .ok (.ifCond .ne 7, 3) := by decide +kernel
theorem dX4_holds_9 : decode cX4_holds 9 = .ok (.iconst 1, 1) := by decide +kernel
theorem dX4_holds_10 : decode cX4_holds 10 = .ok (.goto 4, 3) := by decide +kernel
theorem dX4_holds_13 : decode cX4_holds 13 = .ok (.iconst 0, 1) := by decide +kernel
theorem dX4_holds_14 : decode cX4_holds 14 = .ok (.ireturn, 1) := by decide +kernel
theorem dX4_of_0 : decode cX4_of 0 = .ok (.iconst 1, 1) := by decide +kernel
theorem dX4_of_1 : decode cX4_of 1 = .ok (.bipush 6, 2) := by decide +kernel
theorem dX4_of_3 : decode cX4_of 3 = .ok (.iload_n 0, 1) := by decide +kernel
theorem dX4_of_4 : decode cX4_of 4 = .ok (.imul, 1) := by decide +kernel
theorem dX4_of_5 : decode cX4_of 5 = .ok (.iadd, 1) := by decide +kernel
theorem dX4_of_6 : decode cX4_of 6 = .ok (.iload_n 1, 1) := by decide +kernel
theorem dX4_of_7 : decode cX4_of 7 = .ok (.iadd, 1) := by decide +kernel
theorem dX4_of_8 : decode cX4_of 8 = .ok (.ireturn, 1) := by decide +kernel
set_option maxRecDepth 20000 in
theorem ggX4_isRod_X4_in : GoodIn wsX4_isRod wsX4_in := goodIn_r _ [4] (by decide +kernel) (by decide +kernel)
set_option maxRecDepth 20000 in
theorem gX4_isRod_X4_in : GoodIn wsX4_isRod (va_wsS RX4 26 yX4_in wsX4_in) := goodIn_app (goodIn_of _ (by decide +kernel)) ggX4_isRod_X4_in
theorem dX4_isRod_0 : decode cX4_isRod 0 = .ok (.iload_n 0, 1) := by decide +kernel
theorem dX4_isRod_1 : decode cX4_isRod 1 = .ok (.iconst 0, 1) := by decide +kernel
theorem dX4_isRod_2 : decode cX4_isRod 2 = .ok (.bipush 8, 2) := by decide +kernel
theorem dX4_isRod_4 : decode cX4_isRod 4 = .ok (.invokestatic 26, 3) := by decide +kernel
theorem dX4_isRod_7 : decode cX4_isRod 7 = .ok (.ireturn, 1) := by decide +kernel
theorem dX4_size_0 : decode cX4_size 0 = .ok (.iload_n 0, 1) := by decide +kernel
theorem dX4_size_1 : decode cX4_size 1 = .ok (.ifCond .ge 8, 3) := by decide +kernel
theorem dX4_size_4 : decode cX4_size 4 = .ok (.iload_n 0, 1) := by decide +kernel
theorem dX4_size_5 : decode cX4_size 5 = .ok (.ineg, 1) := by decide +kernel
theorem dX4_size_6 : decode cX4_size 6 = .ok (.goto 4, 3) := by decide +kernel
theorem dX4_size_9 : decode cX4_size 9 = .ok (.iload_n 0, 1) := by decide +kernel
theorem dX4_size_10 : decode cX4_size 10 = .ok (.ireturn, 1) := by decide +kernel
theorem dX4_save_0 : decode cX4_save 0 = .ok (.aload_n 0, 1) := by decide +kernel
theorem dX4_save_1 : decode cX4_save 1 = .ok (.getfield 30, 3) := by decide +kernel
theorem dX4_save_4 : decode cX4_save 4 = .ok (.bipush 6, 2) := by decide +kernel
theorem dX4_save_6 : decode cX4_save 6 = .ok (.if_icmp .ne 43, 3) := by decide +kernel
theorem dX4_save_9 : decode cX4_save 9 = .ok (.iconst 0, 1) := by decide +kernel
theorem dX4_save_10 : decode cX4_save 10 = .ok (.istore_n 1, 1) := by decide +kernel
theorem dX4_save_11 : decode cX4_save 11 = .ok (.iload_n 1, 1) := by decide +kernel
theorem dX4_save_12 : decode cX4_save 12 = .ok (.sipush 275, 3) := by decide +kernel
theorem dX4_save_15 : decode cX4_save 15 = .ok (.if_icmp .ge 24, 3) := by decide +kernel
theorem dX4_save_18 : decode cX4_save 18 = .ok (.aload_n 0, 1) := by decide +kernel
theorem dX4_save_19 : decode cX4_save 19 = .ok (.getfield 16, 3) := by decide +kernel
theorem dX4_save_22 : decode cX4_save 22 = .ok (.iload_n 1, 1) := by decide +kernel
theorem dX4_save_23 : decode cX4_save 23 = .ok (.aload_n 0, 1) := by decide +kernel
theorem dX4_save_24 : decode cX4_save 24 = .ok (.getfield 16, 3) := by decide +kernel
theorem dX4_save_27 : decode cX4_save 27 = .ok (.bipush 55, 2) := by decide +kernel
theorem dX4_save_29 : decode cX4_save 29 = .ok (.iload_n 1, 1) := by decide +kernel
theorem dX4_save_30 : decode cX4_save 30 = .ok (.iadd, 1) := by decide +kernel
theorem dX4_save_31 : decode cX4_save 31 = .ok (.iaload, 1) := by decide +kernel
theorem dX4_save_32 : decode cX4_save 32 = .ok (.iastore, 1) := by decide +kernel
theorem dX4_save_33 : decode cX4_save 33 = .ok (.iinc 1 1, 3) := by decide +kernel
theorem dX4_save_36 : decode cX4_save 36 = .ok (.goto (-25), 3) := by decide +kernel
theorem dX4_save_39 : decode cX4_save 39 = .ok (.aload_n 0, 1) := by decide +kernel
theorem dX4_save_40 : decode cX4_save 40 = .ok (.dup, 1) := by decide +kernel
theorem dX4_save_41 : decode cX4_save 41 = .ok (.getfield 30, 3) := by decide +kernel
theorem dX4_save_44 : decode cX4_save 44 = .ok (.iconst 1, 1) := by decide +kernel
theorem dX4_save_45 : decode cX4_save 45 = .ok (.isub, 1) := by decide +kernel
theorem dX4_save_46 : decode cX4_save 46 = .ok (.putfield 30, 3) := by decide +kernel
theorem dX4_save_49 : decode cX4_save 49 = .ok (.iconst 0, 1) := by decide +kernel
theorem dX4_save_50 : decode cX4_save 50 = .ok (.istore_n 1, 1) := by decide +kernel
theorem dX4_save_51 : decode cX4_save 51 = .ok (.iload_n 1, 1) := by decide +kernel
theorem dX4_save_52 : decode cX4_save 52 = .ok (.bipush 55, 2) := by decide +kernel
theorem dX4_save_54 : decode cX4_save 54 = .ok (.if_icmp .ge 29, 3) := by decide +kernel
theorem dX4_save_57 : decode cX4_save 57 = .ok (.aload_n 0, 1) := by decide +kernel
theorem dX4_save_58 : decode cX4_save 58 = .ok (.getfield 16, 3) := by decide +kernel
theorem dX4_save_61 : decode cX4_save 61 = .ok (.bipush 55, 2) := by decide +kernel
theorem dX4_save_63 : decode cX4_save 63 = .ok (.aload_n 0, 1) := by decide +kernel
theorem dX4_save_64 : decode cX4_save 64 = .ok (.getfield 30, 3) := by decide +kernel
theorem dX4_save_67 : decode cX4_save 67 = .ok (.imul, 1) := by decide +kernel
theorem dX4_save_68 : decode cX4_save 68 = .ok (.iload_n 1, 1) := by decide +kernel
theorem dX4_save_69 : decode cX4_save 69 = .ok (.iadd, 1) := by decide +kernel
theorem dX4_save_70 : decode cX4_save 70 = .ok (.aload_n 0, 1) := by decide +kernel
theorem dX4_save_71 : decode cX4_save 71 = .ok (.getfield 7, 3) := by decide +kernel
theorem dX4_save_74 : decode cX4_save 74 = .ok (.iload_n 1, 1) := by decide +kernel
theorem dX4_save_75 : decode cX4_save 75 = .ok (.iaload, 1) := by decide +kernel
theorem dX4_save_76 : decode cX4_save 76 = .ok (.iastore, 1) := by decide +kernel
theorem dX4_save_77 : decode cX4_save 77 = .ok (.iinc 1 1, 3) := by decide +kernel
theorem dX4_save_80 : decode cX4_save 80 = .ok (.goto (-29), 3) := by decide +kernel
theorem dX4_save_83 : decode cX4_save 83 = .ok (.aload_n 0, 1) := by decide +kernel
theorem dX4_save_84 : decode cX4_save 84 = .ok (.dup, 1) := by decide +kernel
theorem dX4_save_85 : decode cX4_save 85 = .ok (.getfield 30, 3) := by decide +kernel
theorem dX4_save_88 : decode cX4_save 88 = .ok (.iconst 1, 1) := by decide +kernel
theorem dX4_save_89 : decode cX4_save 89 = .ok (.iadd, 1) := by decide +kernel
theorem dX4_save_90 : decode cX4_save 90 = .ok (.putfield 30, 3) := by decide +kernel
theorem dX4_save_93 : decode cX4_save 93 = .ok (.return_, 1) := by decide +kernel
theorem dX4_putAside_0 : decode cX4_putAside 0 = .ok (.iconst 0, 1) := by decide +kernel
theorem dX4_putAside_1 : decode cX4_putAside 1 = .ok (.istore_n 1, 1) := by decide +kernel
theorem dX4_putAside_2 : decode cX4_putAside 2 = .ok (.iload_n 1, 1) := by decide +kernel
theorem dX4_putAside_3 : decode cX4_putAside 3 = .ok (.bipush 55, 2) := by decide +kernel
theorem dX4_putAside_5 : decode cX4_putAside 5 = .ok (.if_icmp .ge 21, 3) := by decide +kernel
theorem dX4_putAside_8 : decode cX4_putAside 8 = .ok (.aload_n 0, 1) := by decide +kernel
theorem dX4_putAside_9 : decode cX4_putAside 9 = .ok (.getfield 13, 3) := by decide +kernel
theorem dX4_putAside_12 : decode cX4_putAside 12 = .ok (.iload_n 1, 1) := by decide +kernel
theorem dX4_putAside_13 : decode cX4_putAside 13 = .ok (.aload_n 0, 1) := by decide +kernel
theorem dX4_putAside_14 : decode cX4_putAside 14 = .ok (.getfield 7, 3) := by decide +kernel
theorem dX4_putAside_17 : decode cX4_putAside 17 = .ok (.iload_n 1, 1) := by decide +kernel
theorem dX4_putAside_18 : decode cX4_putAside 18 = .ok (.iaload, 1) := by decide +kernel
theorem dX4_putAside_19 : decode cX4_putAside 19 = .ok (.iastore, 1) := by decide +kernel
theorem dX4_putAside_20 : decode cX4_putAside 20 = .ok (.iinc 1 1, 3) := by decide +kernel
theorem dX4_putAside_23 : decode cX4_putAside 23 = .ok (.goto (-21), 3) := by decide +kernel
theorem dX4_putAside_26 : decode cX4_putAside 26 = .ok (.return_, 1) := by decide +kernel
theorem dX4_putBack_0 : decode cX4_putBack 0 = .ok (.iconst 0, 1) := by decide +kernel
theorem dX4_putBack_1 : decode cX4_putBack 1 = .ok (.istore_n 1, 1) := by decide +kernel
theorem dX4_putBack_2 : decode cX4_putBack 2 = .ok (.iload_n 1, 1) := by decide +kernel
theorem dX4_putBack_3 : decode cX4_putBack 3 = .ok (.bipush 55, 2) := by decide +kernel
theorem dX4_putBack_5 : decode cX4_putBack 5 = .ok (.if_icmp .ge 21, 3) := by decide +kernel
theorem dX4_putBack_8 : decode cX4_putBack 8 = .ok (.aload_n 0, 1) := by decide +kernel
theorem dX4_putBack_9 : decode cX4_putBack 9 = .ok (.getfield 7, 3) := by decide +kernel
theorem dX4_putBack_12 : decode cX4_putBack 12 = .ok (.iload_n 1, 1) := by decide +kernel
theorem dX4_putBack_13 : decode cX4_putBack 13 = .ok (.aload_n 0, 1) := by decide +kernel
theorem dX4_putBack_14 : decode cX4_putBack 14 = .ok (.getfield 13, 3) := by decide +kernel
theorem dX4_putBack_17 : decode cX4_putBack 17 = .ok (.iload_n 1, 1) := by decide +kernel
theorem dX4_putBack_18 : decode cX4_putBack 18 = .ok (.iaload, 1) := by decide +kernel
theorem dX4_putBack_19 : decode cX4_putBack 19 = .ok (.iastore, 1) := by decide +kernel
theorem dX4_putBack_20 : decode cX4_putBack 20 = .ok (.iinc 1 1, 3) := by decide +kernel
theorem dX4_putBack_23 : decode cX4_putBack 23 = .ok (.goto (-21), 3) := by decide +kernel
theorem dX4_putBack_26 : decode cX4_putBack 26 = .ok (.return_, 1) := by decide +kernel
set_option maxRecDepth 20000 in
theorem ggX4_shows_X4_of : GoodIn wsX4_shows wsX4_of := goodIn_r _ [5] (by decide +kernel) (by decide +kernel)
set_option maxRecDepth 20000 in
theorem gX4_shows_X4_of : GoodIn wsX4_shows (va_wsS RX4 33 yX4_of wsX4_of) := goodIn_app (goodIn_of _ (by decide +kernel)) ggX4_shows_X4_of
theorem dX4_shows_0 : decode cX4_shows 0 = .ok (.iconst 5, 1) := by decide +kernel
theorem dX4_shows_1 : decode cX4_shows 1 = .ok (.aload_n 0, 1) := by decide +kernel
theorem dX4_shows_2 : decode cX4_shows 2 = .ok (.getfield 7, 3) := by decide +kernel
theorem dX4_shows_5 : decode cX4_shows 5 = .ok (.iload_n 1, 1) := by decide +kernel
theorem dX4_shows_6 : decode cX4_shows 6 = .ok (.iconst 0, 1) := by decide +kernel
theorem dX4_shows_7 : decode cX4_shows 7 = .ok (.invokestatic 33, 3) := by decide +kernel
theorem dX4_shows_10 : decode cX4_shows 10 = .ok (.iaload, 1) := by decide +kernel
theorem dX4_shows_11 : decode cX4_shows 11 = .ok (.imul, 1) := by decide +kernel
theorem dX4_shows_12 : decode cX4_shows 12 = .ok (.aload_n 0, 1) := by decide +kernel
theorem dX4_shows_13 : decode cX4_shows 13 = .ok (.getfield 7, 3) := by decide +kernel
theorem dX4_shows_16 : decode cX4_shows 16 = .ok (.iload_n 1, 1) := by decide +kernel
theorem dX4_shows_17 : decode cX4_shows 17 = .ok (.iconst 1, 1) := by decide +kernel
theorem dX4_shows_18 : decode cX4_shows 18 = .ok (.invokestatic 33, 3) := by decide +kernel
theorem dX4_shows_21 : decode cX4_shows 21 = .ok (.iaload, 1) := by decide +kernel
theorem dX4_shows_22 : decode cX4_shows 22 = .ok (.iadd, 1) := by decide +kernel
theorem dX4_shows_23 : decode cX4_shows 23 = .ok (.ireturn, 1) := by decide +kernel
set_option maxRecDepth 20000 in
theorem ggX4_movesTo_X4_of : GoodIn wsX4_movesTo wsX4_of := goodIn_r _ [5] (by decide +kernel) (by decide +kernel)
set_option maxRecDepth 20000 in
theorem gX4_movesTo_X4_of : GoodIn wsX4_movesTo (va_wsS RX4 33 yX4_of wsX4_of) := goodIn_app (goodIn_of _ (by decide +kernel)) ggX4_movesTo_X4_of
set_option maxRecDepth 20000 in
theorem ggX4_movesTo_X4_size : GoodIn wsX4_movesTo wsX4_size := goodIn_r _ [8] (by decide +kernel) (by decide +kernel)
set_option maxRecDepth 20000 in
theorem gX4_movesTo_X4_size : GoodIn wsX4_movesTo (va_wsS RX4 37 yX4_size wsX4_size) := goodIn_app (goodIn_of _ (by decide +kernel)) ggX4_movesTo_X4_size
theorem dX4_movesTo_0 : decode cX4_movesTo 0 = .ok (.iload_n 2, 1) := by decide +kernel
theorem dX4_movesTo_1 : decode cX4_movesTo 1 = .ok (.aload_n 0, 1) := by decide +kernel
theorem dX4_movesTo_2 : decode cX4_movesTo 2 = .ok (.getfield 7, 3) := by decide +kernel
theorem dX4_movesTo_5 : decode cX4_movesTo 5 = .ok (.iload_n 1, 1) := by decide +kernel
theorem dX4_movesTo_6 : decode cX4_movesTo 6 = .ok (.iconst 0, 1) := by decide +kernel
theorem dX4_movesTo_7 : decode cX4_movesTo 7 = .ok (.invokestatic 33, 3) := by decide +kernel
theorem dX4_movesTo_10 : decode cX4_movesTo 10 = .ok (.iaload, 1) := by decide +kernel
theorem dX4_movesTo_11 : decode cX4_movesTo 11 = .ok (.isub, 1) := by decide +kernel
theorem dX4_movesTo_12 : decode cX4_movesTo 12 = .ok (.invokestatic 37, 3) := by decide +kernel
theorem dX4_movesTo_15 : decode cX4_movesTo 15 = .ok (.iload_n 3, 1) := by decide +kernel
theorem dX4_movesTo_16 : decode cX4_movesTo 16 = .ok (.aload_n 0, 1) := by decide +kernel
theorem dX4_movesTo_17 : decode cX4_movesTo 17 = .ok (.getfield 7, 3) := by decide +kernel
theorem dX4_movesTo_20 : decode cX4_movesTo 20 = .ok (.iload_n 1, 1) := by decide +kernel
theorem dX4_movesTo_21 : decode cX4_movesTo 21 = .ok (.iconst 1, 1) := by decide +kernel
theorem dX4_movesTo_22 : decode cX4_movesTo 22 = .ok (.invokestatic 33, 3) := by decide +kernel
theorem dX4_movesTo_25 : decode cX4_movesTo 25 = .ok (.iaload, 1) := by decide +kernel
theorem dX4_movesTo_26 : decode cX4_movesTo 26 = .ok (.isub, 1) := by decide +kernel
theorem dX4_movesTo_27 : decode cX4_movesTo 27 = .ok (.invokestatic 37, 3) := by decide +kernel
theorem dX4_movesTo_30 : decode cX4_movesTo 30 = .ok (.iadd, 1) := by decide +kernel
theorem dX4_movesTo_31 : decode cX4_movesTo 31 = .ok (.ireturn, 1) := by decide +kernel
set_option maxRecDepth 20000 in
theorem ggX4_isLoose_X4_of : GoodIn wsX4_isLoose wsX4_of := goodIn_r _ [5] (by decide +kernel) (by decide +kernel)
set_option maxRecDepth 20000 in
theorem gX4_isLoose_X4_of : GoodIn wsX4_isLoose (va_wsS RX4 33 yX4_of wsX4_of) := goodIn_app (goodIn_of _ (by decide +kernel)) ggX4_isLoose_X4_of
theorem dX4_isLoose_0 : decode cX4_isLoose 0 = .ok (.aload_n 0, 1) := by decide +kernel
theorem dX4_isLoose_1 : decode cX4_isLoose 1 = .ok (.getfield 7, 3) := by decide +kernel
theorem dX4_isLoose_4 : decode cX4_isLoose 4 = .ok (.iload_n 1, 1) := by decide +kernel
theorem dX4_isLoose_5 : decode cX4_isLoose 5 = .ok (.iconst 3, 1) := by decide +kernel
theorem dX4_isLoose_6 : decode cX4_isLoose 6 = .ok (.invokestatic 33, 3) := by decide +kernel
theorem dX4_isLoose_9 : decode cX4_isLoose 9 = .ok (.iaload, 1) := by decide +kernel
theorem dX4_isLoose_10 : decode cX4_isLoose 10 = .ok (.istore 4, 2) := by decide +kernel
theorem dX4_isLoose_12 : decode cX4_isLoose 12 = .ok (.iload 4, 2) := by decide +kernel
theorem dX4_isLoose_14 : decode cX4_isLoose 14 = .ok (.iconst 1, 1) := by decide +kernel
theorem dX4_isLoose_15 : decode cX4_isLoose 15 = .ok (.iand, 1) := by decide +kernel
theorem dX4_isLoose_16 : decode cX4_isLoose 16 = .ok (.ifCond .eq 17, 3) := by decide +kernel
theorem dX4_isLoose_19 : decode cX4_isLoose 19 = .ok (.iload_n 2, 1) := by decide +kernel
theorem dX4_isLoose_20 : decode cX4_isLoose 20 = .ok (.aload_n 0, 1) := by decide +kernel
theorem dX4_isLoose_21 : decode cX4_isLoose 21 = .ok (.getfield 7, 3) := by decide +kernel
theorem dX4_isLoose_24 : decode cX4_isLoose 24 = .ok (.iload_n 1, 1) := by decide +kernel
theorem dX4_isLoose_25 : decode cX4_isLoose 25 = .ok (.iconst 0, 1) := by decide +kernel
theorem dX4_isLoose_26 : decode cX4_isLoose 26 = .ok (.invokestatic 33, 3) := by decide +kernel
theorem dX4_isLoose_29 : decode cX4_isLoose 29 = .ok (.iaload, 1) := by decide +kernel
theorem dX4_isLoose_30 : decode cX4_isLoose 30 = .ok (.if_icmp .ne 28, 3) := by decide +kernel
theorem dX4_isLoose_33 : decode cX4_isLoose 33 = .ok (.iload 4, 2) := by decide +kernel
theorem dX4_isLoose_35 : decode cX4_isLoose 35 = .ok (.iconst 2, 1) := by decide +kernel
theorem dX4_isLoose_36 : decode cX4_isLoose 36 = .ok (.iand, 1) := by decide +kernel
theorem dX4_isLoose_37 : decode cX4_isLoose 37 = .ok (.ifCond .eq 17, 3) := by decide +kernel
theorem dX4_isLoose_40 : decode cX4_isLoose 40 = .ok (.iload_n 3, 1) := by decide +kernel
theorem dX4_isLoose_41 : decode cX4_isLoose 41 = .ok (.aload_n 0, 1) := by decide +kernel
theorem dX4_isLoose_42 : decode cX4_isLoose 42 = .ok (.getfield 7, 3) := by decide +kernel
theorem dX4_isLoose_45 : decode cX4_isLoose 45 = .ok (.iload_n 1, 1) := by decide +kernel
theorem dX4_isLoose_46 : decode cX4_isLoose 46 = .ok (.iconst 1, 1) := by decide +kernel
theorem dX4_isLoose_47 : decode cX4_isLoose 47 = .ok (.invokestatic 33, 3) := by decide +kernel
theorem dX4_isLoose_50 : decode cX4_isLoose 50 = .ok (.iaload, 1) := by decide +kernel
theorem dX4_isLoose_51 : decode cX4_isLoose 51 = .ok (.if_icmp .ne 7, 3) := by decide +kernel
theorem dX4_isLoose_54 : decode cX4_isLoose 54 = .ok (.iconst 1, 1) := by decide +kernel
theorem dX4_isLoose_55 : decode cX4_isLoose 55 = .ok (.goto 4, 3) := by decide +kernel
theorem dX4_isLoose_58 : decode cX4_isLoose 58 = .ok (.iconst 0, 1) := by decide +kernel
theorem dX4_isLoose_59 : decode cX4_isLoose 59 = .ok (.ireturn, 1) := by decide +kernel
set_option maxRecDepth 20000 in
theorem ggX4_fivesFor_X4_in : GoodIn wsX4_fivesFor wsX4_in := goodIn_r _ [4] (by decide +kernel) (by decide +kernel)
set_option maxRecDepth 20000 in
theorem gX4_fivesFor_X4_in : GoodIn wsX4_fivesFor (va_wsS RX4 26 yX4_in wsX4_in) := goodIn_app (goodIn_of _ (by decide +kernel)) ggX4_fivesFor_X4_in
set_option maxRecDepth 20000 in
theorem ggX4_fivesFor_X4_isLoose : GoodIn wsX4_fivesFor wsX4_isLoose := goodIn_r _ [8, 9, 10, 11, 3, 12, 20, 21, 22, 23, 24, 25, 26, 27] (by decide +kernel) (by decide +kernel)
set_option maxRecDepth 20000 in
theorem gX4_fivesFor_X4_isLoose : GoodIn wsX4_fivesFor (wsV RX4 41 RX4 yX4_isLoose wsX4_isLoose) := goodIn_app (goodIn_of _ (by decide +kernel)) ggX4_fivesFor_X4_isLoose
set_option maxRecDepth 20000 in
theorem ggX4_fivesFor_X4_movesTo : GoodIn wsX4_fivesFor wsX4_movesTo := goodIn_r _ [16, 9, 10, 11, 3, 12, 17, 18, 19, 20, 21, 22, 23, 24, 25, 26, 27] (by decide +kernel) (by decide +kernel)
set_option maxRecDepth 20000 in
theorem gX4_fivesFor_X4_movesTo : GoodIn wsX4_fivesFor (wsV RX4 44 RX4 yX4_movesTo wsX4_movesTo) := goodIn_app (goodIn_of _ (by decide +kernel)) ggX4_fivesFor_X4_movesTo
theorem dX4_fivesFor_0 : decode cX4_fivesFor 0 = .ok (.iconst (-1), 1) := by decide +kernel
theorem dX4_fivesFor_1 : decode cX4_fivesFor 1 = .ok (.istore_n 3, 1) := by decide +kernel
theorem dX4_fivesFor_2 : decode cX4_fivesFor 2 = .ok (.iconst 2, 1) := by decide +kernel
theorem dX4_fivesFor_3 : decode cX4_fivesFor 3 = .ok (.istore 4, 2) := by decide +kernel
theorem dX4_fivesFor_5 : decode cX4_fivesFor 5 = .ok (.iload 4, 2) := by decide +kernel
theorem dX4_fivesFor_7 : decode cX4_fivesFor 7 = .ok (.ifCond .lt 86, 3) := by decide +kernel
theorem dX4_fivesFor_10 : decode cX4_fivesFor 10 = .ok (.iload_n 2, 1) := by decide +kernel
theorem dX4_fivesFor_11 : decode cX4_fivesFor 11 = .ok (.iconst 5, 1) := by decide +kernel
theorem dX4_fivesFor_12 : decode cX4_fivesFor 12 = .ok (.iload 4, 2) := by decide +kernel
theorem dX4_fivesFor_14 : decode cX4_fivesFor 14 = .ok (.imul, 1) := by decide +kernel
theorem dX4_fivesFor_15 : decode cX4_fivesFor 15 = .ok (.isub, 1) := by decide +kernel
theorem dX4_fivesFor_16 : decode cX4_fivesFor 16 = .ok (.istore 5, 2) := by decide +kernel
theorem dX4_fivesFor_18 : decode cX4_fivesFor 18 = .ok (.iload 5, 2) := by decide +kernel
theorem dX4_fivesFor_20 : decode cX4_fivesFor 20 = .ok (.iconst 0, 1) := by decide +kernel
theorem dX4_fivesFor_21 : decode cX4_fivesFor 21 = .ok (.iconst 5, 1) := by decide +kernel
theorem dX4_fivesFor_22 : decode cX4_fivesFor 22 = .ok (.invokestatic 26, 3) := by decide +kernel
theorem dX4_fivesFor_25 : decode cX4_fivesFor 25 = .ok (.ifCond .eq 19, 3) := by decide +kernel
theorem dX4_fivesFor_28 : decode cX4_fivesFor 28 = .ok (.aload_n 0, 1) := by decide +kernel
theorem dX4_fivesFor_29 : decode cX4_fivesFor 29 = .ok (.iload_n 1, 1) := by decide +kernel
theorem dX4_fivesFor_30 : decode cX4_fivesFor 30 = .ok (.iload 4, 2) := by decide +kernel
theorem dX4_fivesFor_32 : decode cX4_fivesFor 32 = .ok (.iload 5, 2) := by decide +kernel
theorem dX4_fivesFor_34 : decode cX4_fivesFor 34 = .ok (.invokevirtual 41, 3) := by decide +kernel
theorem dX4_fivesFor_37 : decode cX4_fivesFor 37 = .ok (.ifCond .eq 7, 3) := by decide +kernel
theorem dX4_fivesFor_40 : decode cX4_fivesFor 40 = .ok (.iconst 1, 1) := by decide +kernel
theorem dX4_fivesFor_41 : decode cX4_fivesFor 41 = .ok (.goto 4, 3) := by decide +kernel
theorem dX4_fivesFor_44 : decode cX4_fivesFor 44 = .ok (.iconst 0, 1) := by decide +kernel
theorem dX4_fivesFor_45 : decode cX4_fivesFor 45 = .ok (.istore 6, 2) := by decide +kernel
theorem dX4_fivesFor_47 : decode cX4_fivesFor 47 = .ok (.iload 6, 2) := by decide +kernel
theorem dX4_fivesFor_49 : decode cX4_fivesFor 49 = .ok (.ifCond .eq 36, 3) := by decide +kernel
theorem dX4_fivesFor_52 : decode cX4_fivesFor 52 = .ok (.iload_n 3, 1) := by decide +kernel
theorem dX4_fivesFor_53 : decode cX4_fivesFor 53 = .ok (.iconst (-1), 1) := by decide +kernel
theorem dX4_fivesFor_54 : decode cX4_fivesFor 54 = .ok (.if_icmp .eq 26, 3) := by decide +kernel
theorem dX4_fivesFor_57 : decode cX4_fivesFor 57 = .ok (.aload_n 0, 1) := by decide +kernel
theorem dX4_fivesFor_58 : decode cX4_fivesFor 58 = .ok (.iload_n 1, 1) := by decide +kernel
theorem dX4_fivesFor_59 : decode cX4_fivesFor 59 = .ok (.iload 4, 2) := by decide +kernel
theorem dX4_fivesFor_61 : decode cX4_fivesFor 61 = .ok (.iload 5, 2) := by decide +kernel
theorem dX4_fivesFor_63 : decode cX4_fivesFor 63 = .ok (.invokevirtual 44, 3) := by decide +kernel
theorem dX4_fivesFor_66 : decode cX4_fivesFor 66 = .ok (.aload_n 0, 1) := by decide +kernel
theorem dX4_fivesFor_67 : decode cX4_fivesFor 67 = .ok (.iload_n 1, 1) := by decide +kernel
theorem dX4_fivesFor_68 : decode cX4_fivesFor 68 = .ok (.iload_n 3, 1) := by decide +kernel
theorem dX4_fivesFor_69 : decode cX4_fivesFor 69 = .ok (.iload_n 2, 1) := by decide +kernel
theorem dX4_fivesFor_70 : decode cX4_fivesFor 70 = .ok (.iconst 5, 1) := by decide +kernel
theorem dX4_fivesFor_71 : decode cX4_fivesFor 71 = .ok (.iload_n 3, 1) := by decide +kernel
theorem dX4_fivesFor_72 : decode cX4_fivesFor 72 = .ok (.imul, 1) := by decide +kernel
theorem dX4_fivesFor_73 : decode cX4_fivesFor 73 = .ok (.isub, 1) := by decide +kernel
theorem dX4_fivesFor_74 : decode cX4_fivesFor 74 = .ok (.invokevirtual 44, 3) := by decide +kernel
theorem dX4_fivesFor_77 : decode cX4_fivesFor 77 = .ok (.if_icmp .ge 8, 3) := by decide +kernel
theorem dX4_fivesFor_80 : decode cX4_fivesFor 80 = .ok (.iload 4, 2) := by decide +kernel
theorem dX4_fivesFor_82 : decode cX4_fivesFor 82 = .ok (.goto 4, 3) := by decide +kernel
theorem dX4_fivesFor_85 : decode cX4_fivesFor 85 = .ok (.iload_n 3, 1) := by decide +kernel
theorem dX4_fivesFor_86 : decode cX4_fivesFor 86 = .ok (.istore_n 3, 1) := by decide +kernel
theorem dX4_fivesFor_87 : decode cX4_fivesFor 87 = .ok (.iinc 4 (-1), 3) := by decide +kernel
theorem dX4_fivesFor_90 : decode cX4_fivesFor 90 = .ok (.goto (-85), 3) := by decide +kernel
theorem dX4_fivesFor_93 : decode cX4_fivesFor 93 = .ok (.iload_n 3, 1) := by decide +kernel
theorem dX4_fivesFor_94 : decode cX4_fivesFor 94 = .ok (.ireturn, 1) := by decide +kernel
set_option maxRecDepth 20000 in
theorem ggX4_can_X4_fivesFor : GoodIn wsX4_can wsX4_fivesFor := goodIn_r _ [5, 6, 7, 4, 8, 9, 10, 11, 12, 13, 14, 15, 16, 17, 18, 19, 20, 21, 22, 23, 24, 25, 26, 27, 28, 29, 30, 31] (by decide +kernel) (by decide +kernel)
set_option maxRecDepth 20000 in
theorem gX4_can_X4_fivesFor : GoodIn wsX4_can (wsV RX4 48 RX4 yX4_fivesFor wsX4_fivesFor) := goodIn_app (goodIn_of _ (by decide +kernel)) ggX4_can_X4_fivesFor
theorem dX4_can_0 : decode cX4_can 0 = .ok (.aload_n 0, 1) := by decide +kernel
theorem dX4_can_1 : decode cX4_can 1 = .ok (.iload_n 1, 1) := by decide +kernel
theorem dX4_can_2 : decode cX4_can 2 = .ok (.iload_n 2, 1) := by decide +kernel
theorem dX4_can_3 : decode cX4_can 3 = .ok (.invokevirtual 48, 3) := by decide +kernel
theorem dX4_can_6 : decode cX4_can 6 = .ok (.iconst (-1), 1) := by decide +kernel
theorem dX4_can_7 : decode cX4_can 7 = .ok (.if_icmp .eq 7, 3) := by decide +kernel
theorem dX4_can_10 : decode cX4_can 10 = .ok (.iconst 1, 1) := by decide +kernel
theorem dX4_can_11 : decode cX4_can 11 = .ok (.goto 4, 3) := by decide +kernel
theorem dX4_can_14 : decode cX4_can 14 = .ok (.iconst 0, 1) := by decide +kernel
theorem dX4_can_15 : decode cX4_can 15 = .ok (.ireturn, 1) := by decide +kernel
set_option maxRecDepth 20000 in
theorem ggX4_movesBeads_X4_movesTo : GoodIn wsX4_movesBeads wsX4_movesTo := goodIn_r _ [6, 1, 7, 8, 5, 9, 10, 11, 12, 13, 14, 15, 16, 17, 18, 19, 20] (by decide +kernel) (by decide +kernel)
set_option maxRecDepth 20000 in
theorem gX4_movesBeads_X4_movesTo : GoodIn wsX4_movesBeads (wsV RX4 44 RX4 yX4_movesTo wsX4_movesTo) := goodIn_app (goodIn_of _ (by decide +kernel)) ggX4_movesBeads_X4_movesTo
set_option maxRecDepth 20000 in
theorem ggX4_movesBeads_X4_of : GoodIn wsX4_movesBeads wsX4_of := goodIn_r _ [9] (by decide +kernel) (by decide +kernel)
set_option maxRecDepth 20000 in
theorem gX4_movesBeads_X4_of : GoodIn wsX4_movesBeads (va_wsS RX4 33 yX4_of wsX4_of) := goodIn_app (goodIn_of _ (by decide +kernel)) ggX4_movesBeads_X4_of
theorem dX4_movesBeads_0 : decode cX4_movesBeads 0 = .ok (.aload_n 0, 1) := by decide +kernel
theorem dX4_movesBeads_1 : decode cX4_movesBeads 1 = .ok (.iload_n 1, 1) := by decide +kernel
theorem dX4_movesBeads_2 : decode cX4_movesBeads 2 = .ok (.iload_n 2, 1) := by decide +kernel
theorem dX4_movesBeads_3 : decode cX4_movesBeads 3 = .ok (.iload_n 3, 1) := by decide +kernel
theorem dX4_movesBeads_4 : decode cX4_movesBeads 4 = .ok (.invokevirtual 44, 3) := by decide +kernel
theorem dX4_movesBeads_7 : decode cX4_movesBeads 7 = .ok (.istore 4, 2) := by decide +kernel
theorem dX4_movesBeads_9 : decode cX4_movesBeads 9 = .ok (.aload_n 0, 1) := by decide +kernel
theorem dX4_movesBeads_10 : decode cX4_movesBeads 10 = .ok (.getfield 7, 3) := by decide +kernel
theorem dX4_movesBeads_13 : decode cX4_movesBeads 13 = .ok (.iload_n 1, 1) := by decide +kernel
theorem dX4_movesBeads_14 : decode cX4_movesBeads 14 = .ok (.iconst 0, 1) := by decide +kernel
theorem dX4_movesBeads_15 : decode cX4_movesBeads 15 = .ok (.invokestatic 33, 3) := by decide +kernel
theorem dX4_movesBeads_18 : decode cX4_movesBeads 18 = .ok (.iload_n 2, 1) := by decide +kernel
theorem dX4_movesBeads_19 : decode cX4_movesBeads 19 = .ok (.iastore, 1) := by decide +kernel
theorem dX4_movesBeads_20 : decode cX4_movesBeads 20 = .ok (.aload_n 0, 1) := by decide +kernel
theorem dX4_movesBeads_21 : decode cX4_movesBeads 21 = .ok (.getfield 7, 3) := by decide +kernel
theorem dX4_movesBeads_24 : decode cX4_movesBeads 24 = .ok (.iload_n 1, 1) := by decide +kernel
theorem dX4_movesBeads_25 : decode cX4_movesBeads 25 = .ok (.iconst 1, 1) := by decide +kernel
theorem dX4_movesBeads_26 : decode cX4_movesBeads 26 = .ok (.invokestatic 33, 3) := by decide +kernel
theorem dX4_movesBeads_29 : decode cX4_movesBeads 29 = .ok (.iload_n 3, 1) := by decide +kernel
theorem dX4_movesBeads_30 : decode cX4_movesBeads 30 = .ok (.iastore, 1) := by decide +kernel
theorem dX4_movesBeads_31 : decode cX4_movesBeads 31 = .ok (.aload_n 0, 1) := by decide +kernel
theorem dX4_movesBeads_32 : decode cX4_movesBeads 32 = .ok (.getfield 7, 3) := by decide +kernel
theorem dX4_movesBeads_35 : decode cX4_movesBeads 35 = .ok (.iload_n 1, 1) := by decide +kernel
theorem dX4_movesBeads_36 : decode cX4_movesBeads 36 = .ok (.iconst 4, 1) := by decide +kernel
theorem dX4_movesBeads_37 : decode cX4_movesBeads 37 = .ok (.invokestatic 33, 3) := by decide +kernel
theorem dX4_movesBeads_40 : decode cX4_movesBeads 40 = .ok (.dup2, 1) := by decide +kernel
theorem dX4_movesBeads_41 : decode cX4_movesBeads 41 = .ok (.iaload, 1) := by decide +kernel
theorem dX4_movesBeads_42 : decode cX4_movesBeads 42 = .ok (.iload 4, 2) := by decide +kernel
theorem dX4_movesBeads_44 : decode cX4_movesBeads 44 = .ok (.iadd, 1) := by decide +kernel
theorem dX4_movesBeads_45 : decode cX4_movesBeads 45 = .ok (.iastore, 1) := by decide +kernel
theorem dX4_movesBeads_46 : decode cX4_movesBeads 46 = .ok (.iload 4, 2) := by decide +kernel
theorem dX4_movesBeads_48 : decode cX4_movesBeads 48 = .ok (.ireturn, 1) := by decide +kernel
set_option maxRecDepth 20000 in
theorem ggX4_comes_X4_fivesFor : GoodIn wsX4_comes wsX4_fivesFor := goodIn_r _ [5, 6, 7, 4, 8, 9, 10, 11, 12, 13, 14, 15, 16, 17, 18, 19, 20, 21, 22, 23, 28, 29, 30, 31, 32, 33, 34, 35] (by decide +kernel) (by decide +kernel)
set_option maxRecDepth 20000 in
theorem gX4_comes_X4_fivesFor : GoodIn wsX4_comes (wsV RX4 48 RX4 yX4_fivesFor wsX4_fivesFor) := goodIn_app (goodIn_of _ (by decide +kernel)) ggX4_comes_X4_fivesFor
set_option maxRecDepth 20000 in
theorem ggX4_comes_X4_movesBeads : GoodIn wsX4_comes wsX4_movesBeads := goodIn_r _ [27, 13, 17, 18, 19, 4, 20, 14, 15, 16, 21, 22, 23, 28, 29, 30, 31, 32, 33, 34, 35] (by decide +kernel) (by decide +kernel)
set_option maxRecDepth 20000 in
theorem gX4_comes_X4_movesBeads : GoodIn wsX4_comes (wsV RX4 51 RX4 yX4_movesBeads wsX4_movesBeads) := goodIn_app (goodIn_of _ (by decide +kernel)) ggX4_comes_X4_movesBeads
theorem dX4_comes_0 : decode cX4_comes 0 = .ok (.aload_n 0, 1) := by decide +kernel
theorem dX4_comes_1 : decode cX4_comes 1 = .ok (.iload_n 1, 1) := by decide +kernel
theorem dX4_comes_2 : decode cX4_comes 2 = .ok (.iload_n 2, 1) := by decide +kernel
theorem dX4_comes_3 : decode cX4_comes 3 = .ok (.invokevirtual 48, 3) := by decide +kernel
theorem dX4_comes_6 : decode cX4_comes 6 = .ok (.istore_n 3, 1) := by decide +kernel
theorem dX4_comes_7 : decode cX4_comes 7 = .ok (.aload_n 0, 1) := by decide +kernel
theorem dX4_comes_8 : decode cX4_comes 8 = .ok (.iload_n 1, 1) := by decide +kernel
theorem dX4_comes_9 : decode cX4_comes 9 = .ok (.iload_n 3, 1) := by decide +kernel
theorem dX4_comes_10 : decode cX4_comes 10 = .ok (.iload_n 2, 1) := by decide +kernel
theorem dX4_comes_11 : decode cX4_comes 11 = .ok (.iconst 5, 1) := by decide +kernel
theorem dX4_comes_12 : decode cX4_comes 12 = .ok (.iload_n 3, 1) := by decide +kernel
theorem dX4_comes_13 : decode cX4_comes 13 = .ok (.imul, 1) := by decide +kernel
theorem dX4_comes_14 : decode cX4_comes 14 = .ok (.isub, 1) := by decide +kernel
theorem dX4_comes_15 : decode cX4_comes 15 = .ok (.invokevirtual 51, 3) := by decide +kernel
theorem dX4_comes_18 : decode cX4_comes 18 = .ok (.istore 4, 2) := by decide +kernel
theorem dX4_comes_20 : decode cX4_comes 20 = .ok (.return_, 1) := by decide +kernel
set_option maxRecDepth 20000 in
theorem ggX4_allMoves_X4_of : GoodIn wsX4_allMoves wsX4_of := goodIn_r _ [5] (by decide +kernel) (by decide +kernel)
set_option maxRecDepth 20000 in
theorem gX4_allMoves_X4_of : GoodIn wsX4_allMoves (va_wsS RX4 33 yX4_of wsX4_of) := goodIn_app (goodIn_of _ (by decide +kernel)) ggX4_allMoves_X4_of
theorem dX4_allMoves_0 : decode cX4_allMoves 0 = .ok (.iconst 0, 1) := by decide +kernel
theorem dX4_allMoves_1 : decode cX4_allMoves 1 = .ok (.istore_n 1, 1) := by decide +kernel
theorem dX4_allMoves_2 : decode cX4_allMoves 2 = .ok (.iconst 0, 1) := by decide +kernel
theorem dX4_allMoves_3 : decode cX4_allMoves 3 = .ok (.istore_n 2, 1) := by decide +kernel
theorem dX4_allMoves_4 : decode cX4_allMoves 4 = .ok (.iload_n 2, 1) := by decide +kernel
theorem dX4_allMoves_5 : decode cX4_allMoves 5 = .ok (.bipush 9, 2) := by decide +kernel
theorem dX4_allMoves_7 : decode cX4_allMoves 7 = .ok (.if_icmp .ge 22, 3) := by decide +kernel
theorem dX4_allMoves_10 : decode cX4_allMoves 10 = .ok (.iload_n 1, 1) := by decide +kernel
end
section
theorem dX4_allMoves_11 : decode cX4_allMoves 11 = .ok (.aload_n 0, 1) := by decide +kernel
theorem dX4_allMoves_12 : decode cX4_allMoves 12 = .ok (.getfield 7, 3) := by decide +kernel
theorem dX4_allMoves_15 : decode cX4_allMoves 15 = .ok (.iload_n 2, 1) := by decide +kernel
theorem dX4_allMoves_16 : decode cX4_allMoves 16 = .ok (.iconst 4, 1) := by decide +kernel
theorem dX4_allMoves_17 : decode cX4_allMoves 17 = .ok (.invokestatic 33, 3) := by decide +kernel
theorem dX4_allMoves_20 : decode cX4_allMoves 20 = .ok (.iaload, 1) := by decide +kernel
theorem dX4_allMoves_21 : decode cX4_allMoves 21 = .ok (.iadd, 1) := by decide +kernel
theorem dX4_allMoves_22 : decode cX4_allMoves 22 = .ok (.istore_n 1, 1) := by decide +kernel
theorem dX4_allMoves_23 : decode cX4_allMoves 23 = .ok (.iinc 2 1, 3) := by decide +kernel
theorem dX4_allMoves_26 : decode cX4_allMoves 26 = .ok (.goto (-22), 3) := by decide +kernel
theorem dX4_allMoves_29 : decode cX4_allMoves 29 = .ok (.iload_n 1, 1) := by decide +kernel
theorem dX4_allMoves_30 : decode cX4_allMoves 30 = .ok (.ireturn, 1) := by decide +kernel
set_option maxRecDepth 20000 in
theorem ggX4_carries_X4_shows : GoodIn wsX4_carries wsX4_shows := goodIn_r _ [6, 1, 7, 8, 5, 9, 40, 41, 42, 43, 44, 45, 46, 47] (by decide +kernel) (by decide +kernel)
set_option maxRecDepth 20000 in
theorem gX4_carries_X4_shows : GoodIn wsX4_carries (wsV RX4 54 RX4 yX4_shows wsX4_shows) := goodIn_app (goodIn_of _ (by decide +kernel)) ggX4_carries_X4_shows
set_option maxRecDepth 20000 in
theorem ggX4_carries_X4_can : GoodIn wsX4_carries wsX4_can := goodIn_r _ [13, 14, 15, 16, 5, 17, 18, 19, 20, 21, 22, 23, 24, 1, 7, 8, 9, 25, 26, 27, 28, 29, 30, 31, 40, 41, 42, 43, 44, 45, 46, 47] (by decide +kernel) (by decide +kernel)
set_option maxRecDepth 20000 in
theorem gX4_carries_X4_can : GoodIn wsX4_carries (wsV RX4 57 RX4 yX4_can wsX4_can) := goodIn_app (goodIn_of _ (by decide +kernel)) ggX4_carries_X4_can
set_option maxRecDepth 20000 in
theorem ggX4_carries_X4_comes : GoodIn wsX4_carries wsX4_comes := goodIn_r _ [35, 14, 15, 16, 5, 17, 18, 19, 20, 21, 22, 23, 24, 1, 7, 8, 9, 25, 26, 27, 28, 29, 30, 31, 36, 37, 38, 39, 40, 41, 42, 43, 44, 45, 46, 47] (by decide +kernel) (by decide +kernel)
set_option maxRecDepth 20000 in
theorem gX4_carries_X4_comes : GoodIn wsX4_carries (wsV RX4 61 RX4 yX4_comes wsX4_comes) := goodIn_app (goodIn_of _ (by decide +kernel)) ggX4_carries_X4_comes
set_option maxRecDepth 20000 in
theorem ggX4_carries_X4_of : GoodIn wsX4_carries wsX4_of := goodIn_r _ [9] (by decide +kernel) (by decide +kernel)
set_option maxRecDepth 20000 in
theorem gX4_carries_X4_of : GoodIn wsX4_carries (va_wsS RX4 33 yX4_of wsX4_of) := goodIn_app (goodIn_of _ (by decide +kernel)) ggX4_carries_X4_of
theorem dX4_carries_0 : decode cX4_carries 0 = .ok (.iload_n 1, 1) := by decide +kernel
theorem dX4_carries_1 : decode cX4_carries 1 = .ok (.istore_n 3, 1) := by decide +kernel
theorem dX4_carries_2 : decode cX4_carries 2 = .ok (.iload_n 3, 1) := by decide +kernel
theorem dX4_carries_3 : decode cX4_carries 3 = .ok (.bipush 9, 2) := by decide +kernel
theorem dX4_carries_5 : decode cX4_carries 5 = .ok (.if_icmp .ge 57, 3) := by decide +kernel
theorem dX4_carries_8 : decode cX4_carries 8 = .ok (.aload_n 0, 1) := by decide +kernel
theorem dX4_carries_9 : decode cX4_carries 9 = .ok (.iload_n 3, 1) := by decide +kernel
theorem dX4_carries_10 : decode cX4_carries 10 = .ok (.aload_n 0, 1) := by decide +kernel
theorem dX4_carries_11 : decode cX4_carries 11 = .ok (.iload_n 3, 1) := by decide +kernel
theorem dX4_carries_12 : decode cX4_carries 12 = .ok (.invokevirtual 54, 3) := by decide +kernel
theorem dX4_carries_15 : decode cX4_carries 15 = .ok (.iload_n 2, 1) := by decide +kernel
theorem dX4_carries_16 : decode cX4_carries 16 = .ok (.iadd, 1) := by decide +kernel
theorem dX4_carries_17 : decode cX4_carries 17 = .ok (.invokevirtual 57, 3) := by decide +kernel
theorem dX4_carries_20 : decode cX4_carries 20 = .ok (.ifCond .ne 42, 3) := by decide +kernel
theorem dX4_carries_23 : decode cX4_carries 23 = .ok (.aload_n 0, 1) := by decide +kernel
theorem dX4_carries_24 : decode cX4_carries 24 = .ok (.iload_n 3, 1) := by decide +kernel
theorem dX4_carries_25 : decode cX4_carries 25 = .ok (.aload_n 0, 1) := by decide +kernel
theorem dX4_carries_26 : decode cX4_carries 26 = .ok (.iload_n 3, 1) := by decide +kernel
theorem dX4_carries_27 : decode cX4_carries 27 = .ok (.invokevirtual 54, 3) := by decide +kernel
theorem dX4_carries_30 : decode cX4_carries 30 = .ok (.bipush 9, 2) := by decide +kernel
theorem dX4_carries_32 : decode cX4_carries 32 = .ok (.iload_n 2, 1) := by decide +kernel
theorem dX4_carries_33 : decode cX4_carries 33 = .ok (.imul, 1) := by decide +kernel
theorem dX4_carries_34 : decode cX4_carries 34 = .ok (.isub, 1) := by decide +kernel
theorem dX4_carries_35 : decode cX4_carries 35 = .ok (.invokevirtual 57, 3) := by decide +kernel
theorem dX4_carries_38 : decode cX4_carries 38 = .ok (.ifCond .eq 24, 3) := by decide +kernel
theorem dX4_carries_41 : decode cX4_carries 41 = .ok (.aload_n 0, 1) := by decide +kernel
theorem dX4_carries_42 : decode cX4_carries 42 = .ok (.iload_n 3, 1) := by decide +kernel
theorem dX4_carries_43 : decode cX4_carries 43 = .ok (.aload_n 0, 1) := by decide +kernel
theorem dX4_carries_44 : decode cX4_carries 44 = .ok (.iload_n 3, 1) := by decide +kernel
theorem dX4_carries_45 : decode cX4_carries 45 = .ok (.invokevirtual 54, 3) := by decide +kernel
theorem dX4_carries_48 : decode cX4_carries 48 = .ok (.bipush 9, 2) := by decide +kernel
theorem dX4_carries_50 : decode cX4_carries 50 = .ok (.iload_n 2, 1) := by decide +kernel
theorem dX4_carries_51 : decode cX4_carries 51 = .ok (.imul, 1) := by decide +kernel
theorem dX4_carries_52 : decode cX4_carries 52 = .ok (.isub, 1) := by decide +kernel
theorem dX4_carries_53 : decode cX4_carries 53 = .ok (.invokevirtual 61, 3) := by decide +kernel
theorem dX4_carries_56 : decode cX4_carries 56 = .ok (.iinc 3 1, 3) := by decide +kernel
theorem dX4_carries_59 : decode cX4_carries 59 = .ok (.goto (-57), 3) := by decide +kernel
theorem dX4_carries_62 : decode cX4_carries 62 = .ok (.iload_n 3, 1) := by decide +kernel
theorem dX4_carries_63 : decode cX4_carries 63 = .ok (.bipush 9, 2) := by decide +kernel
theorem dX4_carries_65 : decode cX4_carries 65 = .ok (.if_icmp .ne 5, 3) := by decide +kernel
theorem dX4_carries_68 : decode cX4_carries 68 = .ok (.iconst 0, 1) := by decide +kernel
theorem dX4_carries_69 : decode cX4_carries 69 = .ok (.ireturn, 1) := by decide +kernel
theorem dX4_carries_70 : decode cX4_carries 70 = .ok (.aload_n 0, 1) := by decide +kernel
theorem dX4_carries_71 : decode cX4_carries 71 = .ok (.iload_n 3, 1) := by decide +kernel
theorem dX4_carries_72 : decode cX4_carries 72 = .ok (.aload_n 0, 1) := by decide +kernel
theorem dX4_carries_73 : decode cX4_carries 73 = .ok (.iload_n 3, 1) := by decide +kernel
theorem dX4_carries_74 : decode cX4_carries 74 = .ok (.invokevirtual 54, 3) := by decide +kernel
theorem dX4_carries_77 : decode cX4_carries 77 = .ok (.iload_n 2, 1) := by decide +kernel
theorem dX4_carries_78 : decode cX4_carries 78 = .ok (.iadd, 1) := by decide +kernel
theorem dX4_carries_79 : decode cX4_carries 79 = .ok (.invokevirtual 57, 3) := by decide +kernel
theorem dX4_carries_82 : decode cX4_carries 82 = .ok (.ifCond .eq 17, 3) := by decide +kernel
theorem dX4_carries_85 : decode cX4_carries 85 = .ok (.aload_n 0, 1) := by decide +kernel
theorem dX4_carries_86 : decode cX4_carries 86 = .ok (.iload_n 3, 1) := by decide +kernel
theorem dX4_carries_87 : decode cX4_carries 87 = .ok (.aload_n 0, 1) := by decide +kernel
theorem dX4_carries_88 : decode cX4_carries 88 = .ok (.iload_n 3, 1) := by decide +kernel
theorem dX4_carries_89 : decode cX4_carries 89 = .ok (.invokevirtual 54, 3) := by decide +kernel
theorem dX4_carries_92 : decode cX4_carries 92 = .ok (.iload_n 2, 1) := by decide +kernel
theorem dX4_carries_93 : decode cX4_carries 93 = .ok (.iadd, 1) := by decide +kernel
theorem dX4_carries_94 : decode cX4_carries 94 = .ok (.invokevirtual 61, 3) := by decide +kernel
theorem dX4_carries_97 : decode cX4_carries 97 = .ok (.iconst 1, 1) := by decide +kernel
theorem dX4_carries_98 : decode cX4_carries 98 = .ok (.ireturn, 1) := by decide +kernel
theorem dX4_carries_99 : decode cX4_carries 99 = .ok (.aload_n 0, 1) := by decide +kernel
theorem dX4_carries_100 : decode cX4_carries 100 = .ok (.getfield 7, 3) := by decide +kernel
theorem dX4_carries_103 : decode cX4_carries 103 = .ok (.iload_n 3, 1) := by decide +kernel
theorem dX4_carries_104 : decode cX4_carries 104 = .ok (.iconst 2, 1) := by decide +kernel
theorem dX4_carries_105 : decode cX4_carries 105 = .ok (.invokestatic 33, 3) := by decide +kernel
theorem dX4_carries_108 : decode cX4_carries 108 = .ok (.dup2, 1) := by decide +kernel
theorem dX4_carries_109 : decode cX4_carries 109 = .ok (.iaload, 1) := by decide +kernel
theorem dX4_carries_110 : decode cX4_carries 110 = .ok (.iload_n 2, 1) := by decide +kernel
theorem dX4_carries_111 : decode cX4_carries 111 = .ok (.iadd, 1) := by decide +kernel
theorem dX4_carries_112 : decode cX4_carries 112 = .ok (.iastore, 1) := by decide +kernel
theorem dX4_carries_113 : decode cX4_carries 113 = .ok (.aload_n 0, 1) := by decide +kernel
theorem dX4_carries_114 : decode cX4_carries 114 = .ok (.getfield 7, 3) := by decide +kernel
theorem dX4_carries_117 : decode cX4_carries 117 = .ok (.iload_n 3, 1) := by decide +kernel
theorem dX4_carries_118 : decode cX4_carries 118 = .ok (.iconst 5, 1) := by decide +kernel
theorem dX4_carries_119 : decode cX4_carries 119 = .ok (.invokestatic 33, 3) := by decide +kernel
theorem dX4_carries_122 : decode cX4_carries 122 = .ok (.dup2, 1) := by decide +kernel
theorem dX4_carries_123 : decode cX4_carries 123 = .ok (.iaload, 1) := by decide +kernel
theorem dX4_carries_124 : decode cX4_carries 124 = .ok (.iconst 1, 1) := by decide +kernel
theorem dX4_carries_125 : decode cX4_carries 125 = .ok (.iadd, 1) := by decide +kernel
theorem dX4_carries_126 : decode cX4_carries 126 = .ok (.iastore, 1) := by decide +kernel
theorem dX4_carries_127 : decode cX4_carries 127 = .ok (.iload_n 2, 1) := by decide +kernel
theorem dX4_carries_128 : decode cX4_carries 128 = .ok (.ifCond .le 30, 3) := by decide +kernel
theorem dX4_carries_131 : decode cX4_carries 131 = .ok (.aload_n 0, 1) := by decide +kernel
theorem dX4_carries_132 : decode cX4_carries 132 = .ok (.getfield 7, 3) := by decide +kernel
theorem dX4_carries_135 : decode cX4_carries 135 = .ok (.iload_n 3, 1) := by decide +kernel
theorem dX4_carries_136 : decode cX4_carries 136 = .ok (.iconst 2, 1) := by decide +kernel
theorem dX4_carries_137 : decode cX4_carries 137 = .ok (.invokestatic 33, 3) := by decide +kernel
theorem dX4_carries_140 : decode cX4_carries 140 = .ok (.iaload, 1) := by decide +kernel
theorem dX4_carries_141 : decode cX4_carries 141 = .ok (.aload_n 0, 1) := by decide +kernel
theorem dX4_carries_142 : decode cX4_carries 142 = .ok (.getfield 7, 3) := by decide +kernel
theorem dX4_carries_145 : decode cX4_carries 145 = .ok (.iconst 0, 1) := by decide +kernel
theorem dX4_carries_146 : decode cX4_carries 146 = .ok (.iaload, 1) := by decide +kernel
theorem dX4_carries_147 : decode cX4_carries 147 = .ok (.if_icmp .gt 7, 3) := by decide +kernel
theorem dX4_carries_150 : decode cX4_carries 150 = .ok (.iconst 1, 1) := by decide +kernel
theorem dX4_carries_151 : decode cX4_carries 151 = .ok (.goto 32, 3) := by decide +kernel
theorem dX4_carries_154 : decode cX4_carries 154 = .ok (.iconst 0, 1) := by decide +kernel
theorem dX4_carries_155 : decode cX4_carries 155 = .ok (.goto 28, 3) := by decide +kernel
theorem dX4_carries_158 : decode cX4_carries 158 = .ok (.aload_n 0, 1) := by decide +kernel
theorem dX4_carries_159 : decode cX4_carries 159 = .ok (.getfield 7, 3) := by decide +kernel
theorem dX4_carries_162 : decode cX4_carries 162 = .ok (.iload_n 3, 1) := by decide +kernel
theorem dX4_carries_163 : decode cX4_carries 163 = .ok (.iconst 2, 1) := by decide +kernel
theorem dX4_carries_164 : decode cX4_carries 164 = .ok (.invokestatic 33, 3) := by decide +kernel
theorem dX4_carries_167 : decode cX4_carries 167 = .ok (.iaload, 1) := by decide +kernel
theorem dX4_carries_168 : decode cX4_carries 168 = .ok (.aload_n 0, 1) := by decide +kernel
theorem dX4_carries_169 : decode cX4_carries 169 = .ok (.getfield 7, 3) := by decide +kernel
theorem dX4_carries_172 : decode cX4_carries 172 = .ok (.iconst 0, 1) := by decide +kernel
theorem dX4_carries_173 : decode cX4_carries 173 = .ok (.iaload, 1) := by decide +kernel
theorem dX4_carries_174 : decode cX4_carries 174 = .ok (.ineg, 1) := by decide +kernel
theorem dX4_carries_175 : decode cX4_carries 175 = .ok (.if_icmp .lt 7, 3) := by decide +kernel
theorem dX4_carries_178 : decode cX4_carries 178 = .ok (.iconst 1, 1) := by decide +kernel
theorem dX4_carries_179 : decode cX4_carries 179 = .ok (.goto 4, 3) := by decide +kernel
theorem dX4_carries_182 : decode cX4_carries 182 = .ok (.iconst 0, 1) := by decide +kernel
theorem dX4_carries_183 : decode cX4_carries 183 = .ok (.ireturn, 1) := by decide +kernel
set_option maxRecDepth 20000 in
theorem ggX4_adds_X4_shows : GoodIn wsX4_adds wsX4_shows := goodIn_r _ [5, 6, 7, 8, 4, 9, 44, 45, 46, 47, 48, 49, 50, 51] (by decide +kernel) (by decide +kernel)
set_option maxRecDepth 20000 in
theorem gX4_adds_X4_shows : GoodIn wsX4_adds (wsV RX4 54 RX4 yX4_shows wsX4_shows) := goodIn_app (goodIn_of _ (by decide +kernel)) ggX4_adds_X4_shows
set_option maxRecDepth 20000 in
theorem ggX4_adds_X4_can : GoodIn wsX4_adds wsX4_can := goodIn_r _ [13, 14, 15, 16, 4, 17, 18, 19, 20, 21, 22, 23, 24, 6, 7, 8, 9, 25, 26, 27, 28, 29, 30, 31, 44, 45, 46, 47, 48, 49, 50, 51] (by decide +kernel) (by decide +kernel)
set_option maxRecDepth 20000 in
theorem gX4_adds_X4_can : GoodIn wsX4_adds (wsV RX4 57 RX4 yX4_can wsX4_can) := goodIn_app (goodIn_of _ (by decide +kernel)) ggX4_adds_X4_can
set_option maxRecDepth 20000 in
theorem ggX4_adds_X4_comes : GoodIn wsX4_adds wsX4_comes := goodIn_r _ [35, 14, 15, 16, 4, 17, 18, 19, 20, 21, 22, 23, 24, 6, 7, 8, 9, 25, 26, 27, 28, 29, 30, 31, 36, 37, 38, 39, 44, 45, 46, 47, 48, 49, 50, 51] (by decide +kernel) (by decide +kernel)
set_option maxRecDepth 20000 in
theorem gX4_adds_X4_comes : GoodIn wsX4_adds (wsV RX4 61 RX4 yX4_comes wsX4_comes) := goodIn_app (goodIn_of _ (by decide +kernel)) ggX4_adds_X4_comes
set_option maxRecDepth 20000 in
theorem ggX4_adds_X4_carries : GoodIn wsX4_adds wsX4_carries := goodIn_r _ [43, 6, 1, 2, 3, 4, 5, 7, 8, 9, 10, 11, 12, 13, 14, 15, 16, 17, 18, 19, 20, 21, 22, 23, 24, 25, 26, 27, 28, 29, 30, 31, 32, 33, 34, 35, 36, 37, 38, 39, 44, 45, 46, 47, 48, 49, 50, 51] (by decide +kernel) (by decide +kernel)
set_option maxRecDepth 20000 in
theorem gX4_adds_X4_carries : GoodIn wsX4_adds (wsV RX4 65 RX4 yX4_carries wsX4_carries) := goodIn_app (goodIn_of _ (by decide +kernel)) ggX4_adds_X4_carries
theorem dX4_adds_0 : decode cX4_adds 0 = .ok (.iload_n 2, 1) := by decide +kernel
theorem dX4_adds_1 : decode cX4_adds 1 = .ok (.ifCond .le 7, 3) := by decide +kernel
theorem dX4_adds_4 : decode cX4_adds 4 = .ok (.iconst 1, 1) := by decide +kernel
theorem dX4_adds_5 : decode cX4_adds 5 = .ok (.goto 4, 3) := by decide +kernel
theorem dX4_adds_8 : decode cX4_adds 8 = .ok (.iconst (-1), 1) := by decide +kernel
theorem dX4_adds_9 : decode cX4_adds 9 = .ok (.istore_n 3, 1) := by decide +kernel
theorem dX4_adds_10 : decode cX4_adds 10 = .ok (.iload_n 2, 1) := by decide +kernel
theorem dX4_adds_11 : decode cX4_adds 11 = .ok (.ifCond .ne 5, 3) := by decide +kernel
theorem dX4_adds_14 : decode cX4_adds 14 = .ok (.iconst 1, 1) := by decide +kernel
theorem dX4_adds_15 : decode cX4_adds 15 = .ok (.ireturn, 1) := by decide +kernel
theorem dX4_adds_16 : decode cX4_adds 16 = .ok (.aload_n 0, 1) := by decide +kernel
theorem dX4_adds_17 : decode cX4_adds 17 = .ok (.iload_n 1, 1) := by decide +kernel
theorem dX4_adds_18 : decode cX4_adds 18 = .ok (.aload_n 0, 1) := by decide +kernel
theorem dX4_adds_19 : decode cX4_adds 19 = .ok (.iload_n 1, 1) := by decide +kernel
theorem dX4_adds_20 : decode cX4_adds 20 = .ok (.invokevirtual 54, 3) := by decide +kernel
theorem dX4_adds_23 : decode cX4_adds 23 = .ok (.iload_n 2, 1) := by decide +kernel
theorem dX4_adds_24 : decode cX4_adds 24 = .ok (.iadd, 1) := by decide +kernel
theorem dX4_adds_25 : decode cX4_adds 25 = .ok (.invokevirtual 57, 3) := by decide +kernel
theorem dX4_adds_28 : decode cX4_adds 28 = .ok (.ifCond .eq 17, 3) := by decide +kernel
theorem dX4_adds_31 : decode cX4_adds 31 = .ok (.aload_n 0, 1) := by decide +kernel
theorem dX4_adds_32 : decode cX4_adds 32 = .ok (.iload_n 1, 1) := by decide +kernel
theorem dX4_adds_33 : decode cX4_adds 33 = .ok (.aload_n 0, 1) := by decide +kernel
theorem dX4_adds_34 : decode cX4_adds 34 = .ok (.iload_n 1, 1) := by decide +kernel
theorem dX4_adds_35 : decode cX4_adds 35 = .ok (.invokevirtual 54, 3) := by decide +kernel
theorem dX4_adds_38 : decode cX4_adds 38 = .ok (.iload_n 2, 1) := by decide +kernel
theorem dX4_adds_39 : decode cX4_adds 39 = .ok (.iadd, 1) := by decide +kernel
theorem dX4_adds_40 : decode cX4_adds 40 = .ok (.invokevirtual 61, 3) := by decide +kernel
theorem dX4_adds_43 : decode cX4_adds 43 = .ok (.iconst 1, 1) := by decide +kernel
theorem dX4_adds_44 : decode cX4_adds 44 = .ok (.ireturn, 1) := by decide +kernel
theorem dX4_adds_45 : decode cX4_adds 45 = .ok (.aload_n 0, 1) := by decide +kernel
theorem dX4_adds_46 : decode cX4_adds 46 = .ok (.iload_n 1, 1) := by decide +kernel
theorem dX4_adds_47 : decode cX4_adds 47 = .ok (.aload_n 0, 1) := by decide +kernel
theorem dX4_adds_48 : decode cX4_adds 48 = .ok (.iload_n 1, 1) := by decide +kernel
theorem dX4_adds_49 : decode cX4_adds 49 = .ok (.invokevirtual 54, 3) := by decide +kernel
theorem dX4_adds_52 : decode cX4_adds 52 = .ok (.iload_n 2, 1) := by decide +kernel
theorem dX4_adds_53 : decode cX4_adds 53 = .ok (.iadd, 1) := by decide +kernel
theorem dX4_adds_54 : decode cX4_adds 54 = .ok (.bipush 10, 2) := by decide +kernel
theorem dX4_adds_56 : decode cX4_adds 56 = .ok (.iload_n 3, 1) := by decide +kernel
theorem dX4_adds_57 : decode cX4_adds 57 = .ok (.imul, 1) := by decide +kernel
theorem dX4_adds_58 : decode cX4_adds 58 = .ok (.isub, 1) := by decide +kernel
theorem dX4_adds_59 : decode cX4_adds 59 = .ok (.invokevirtual 57, 3) := by decide +kernel
theorem dX4_adds_62 : decode cX4_adds 62 = .ok (.ifCond .ne 5, 3) := by decide +kernel
theorem dX4_adds_65 : decode cX4_adds 65 = .ok (.iconst 0, 1) := by decide +kernel
theorem dX4_adds_66 : decode cX4_adds 66 = .ok (.ireturn, 1) := by decide +kernel
theorem dX4_adds_67 : decode cX4_adds 67 = .ok (.aload_n 0, 1) := by decide +kernel
theorem dX4_adds_68 : decode cX4_adds 68 = .ok (.iload_n 1, 1) := by decide +kernel
theorem dX4_adds_69 : decode cX4_adds 69 = .ok (.aload_n 0, 1) := by decide +kernel
theorem dX4_adds_70 : decode cX4_adds 70 = .ok (.iload_n 1, 1) := by decide +kernel
theorem dX4_adds_71 : decode cX4_adds 71 = .ok (.invokevirtual 54, 3) := by decide +kernel
theorem dX4_adds_74 : decode cX4_adds 74 = .ok (.iload_n 2, 1) := by decide +kernel
theorem dX4_adds_75 : decode cX4_adds 75 = .ok (.iadd, 1) := by decide +kernel
theorem dX4_adds_76 : decode cX4_adds 76 = .ok (.bipush 10, 2) := by decide +kernel
theorem dX4_adds_78 : decode cX4_adds 78 = .ok (.iload_n 3, 1) := by decide +kernel
theorem dX4_adds_79 : decode cX4_adds 79 = .ok (.imul, 1) := by decide +kernel
theorem dX4_adds_80 : decode cX4_adds 80 = .ok (.isub, 1) := by decide +kernel
theorem dX4_adds_81 : decode cX4_adds 81 = .ok (.invokevirtual 61, 3) := by decide +kernel
theorem dX4_adds_84 : decode cX4_adds 84 = .ok (.aload_n 0, 1) := by decide +kernel
theorem dX4_adds_85 : decode cX4_adds 85 = .ok (.iload_n 1, 1) := by decide +kernel
theorem dX4_adds_86 : decode cX4_adds 86 = .ok (.iconst 1, 1) := by decide +kernel
theorem dX4_adds_87 : decode cX4_adds 87 = .ok (.iadd, 1) := by decide +kernel
theorem dX4_adds_88 : decode cX4_adds 88 = .ok (.iload_n 3, 1) := by decide +kernel
theorem dX4_adds_89 : decode cX4_adds 89 = .ok (.invokevirtual 65, 3) := by decide +kernel
theorem dX4_adds_92 : decode cX4_adds 92 = .ok (.ireturn, 1) := by decide +kernel
set_option maxRecDepth 20000 in
theorem ggX4_pays_X4_of : GoodIn wsX4_pays wsX4_of := goodIn_r _ [5] (by decide +kernel) (by decide +kernel)
set_option maxRecDepth 20000 in
theorem gX4_pays_X4_of : GoodIn wsX4_pays (va_wsS RX4 33 yX4_of wsX4_of) := goodIn_app (goodIn_of _ (by decide +kernel)) ggX4_pays_X4_of
set_option maxRecDepth 20000 in
theorem ggX4_pays_X4_adds : GoodIn wsX4_pays wsX4_adds := goodIn_r _ [9, 10, 11, 12, 4, 13, 1, 2, 3, 5, 14, 15, 16, 17, 18, 19, 20, 21, 22, 23, 24, 25, 26, 27, 28, 29, 30, 31, 32, 33, 34, 35, 36, 37, 38, 39, 40, 41, 42, 43, 44, 45, 46, 47, 48, 49, 50, 51, 52, 53, 54, 55] (by decide +kernel) (by decide +kernel)
set_option maxRecDepth 20000 in
theorem gX4_pays_X4_adds : GoodIn wsX4_pays (wsV RX4 68 RX4 yX4_adds wsX4_adds) := goodIn_app (goodIn_of _ (by decide +kernel)) ggX4_pays_X4_adds
theorem dX4_pays_0 : decode cX4_pays 0 = .ok (.aload_n 0, 1) := by decide +kernel
theorem dX4_pays_1 : decode cX4_pays 1 = .ok (.iload_n 1, 1) := by decide +kernel
theorem dX4_pays_2 : decode cX4_pays 2 = .ok (.aload_n 0, 1) := by decide +kernel
theorem dX4_pays_3 : decode cX4_pays 3 = .ok (.getfield 7, 3) := by decide +kernel
theorem dX4_pays_6 : decode cX4_pays 6 = .ok (.iload_n 1, 1) := by decide +kernel
theorem dX4_pays_7 : decode cX4_pays 7 = .ok (.iconst 2, 1) := by decide +kernel
theorem dX4_pays_8 : decode cX4_pays 8 = .ok (.invokestatic 33, 3) := by decide +kernel
theorem dX4_pays_11 : decode cX4_pays 11 = .ok (.iaload, 1) := by decide +kernel
theorem dX4_pays_12 : decode cX4_pays 12 = .ok (.invokevirtual 68, 3) := by decide +kernel
theorem dX4_pays_15 : decode cX4_pays 15 = .ok (.istore_n 2, 1) := by decide +kernel
theorem dX4_pays_16 : decode cX4_pays 16 = .ok (.aload_n 0, 1) := by decide +kernel
theorem dX4_pays_17 : decode cX4_pays 17 = .ok (.getfield 7, 3) := by decide +kernel
theorem dX4_pays_20 : decode cX4_pays 20 = .ok (.iload_n 1, 1) := by decide +kernel
theorem dX4_pays_21 : decode cX4_pays 21 = .ok (.iconst 2, 1) := by decide +kernel
theorem dX4_pays_22 : decode cX4_pays 22 = .ok (.invokestatic 33, 3) := by decide +kernel
theorem dX4_pays_25 : decode cX4_pays 25 = .ok (.iconst 0, 1) := by decide +kernel
theorem dX4_pays_26 : decode cX4_pays 26 = .ok (.iastore, 1) := by decide +kernel
theorem dX4_pays_27 : decode cX4_pays 27 = .ok (.iload_n 2, 1) := by decide +kernel
theorem dX4_pays_28 : decode cX4_pays 28 = .ok (.ireturn, 1) := by decide +kernel
set_option maxRecDepth 20000 in
theorem ggX4_orders_X4_shows : GoodIn wsX4_orders wsX4_shows := goodIn_r _ [5, 6, 7, 8, 4, 9, 44, 45, 46, 47, 48, 49, 50, 51] (by decide +kernel) (by decide +kernel)
set_option maxRecDepth 20000 in
theorem gX4_orders_X4_shows : GoodIn wsX4_orders (wsV RX4 54 RX4 yX4_shows wsX4_shows) := goodIn_app (goodIn_of _ (by decide +kernel)) ggX4_orders_X4_shows
set_option maxRecDepth 20000 in
theorem ggX4_orders_X4_can : GoodIn wsX4_orders wsX4_can := goodIn_r _ [13, 14, 15, 16, 4, 17, 18, 19, 20, 21, 22, 23, 24, 6, 7, 8, 9, 25, 26, 27, 28, 29, 30, 31, 44, 45, 46, 47, 48, 49, 50, 51] (by decide +kernel) (by decide +kernel)
set_option maxRecDepth 20000 in
theorem gX4_orders_X4_can : GoodIn wsX4_orders (wsV RX4 57 RX4 yX4_can wsX4_can) := goodIn_app (goodIn_of _ (by decide +kernel)) ggX4_orders_X4_can
set_option maxRecDepth 20000 in
theorem ggX4_orders_X4_comes : GoodIn wsX4_orders wsX4_comes := goodIn_r _ [35, 14, 15, 16, 4, 17, 18, 19, 20, 21, 22, 23, 24, 6, 7, 8, 9, 25, 26, 27, 28, 29, 30, 31, 36, 37, 38, 39, 44, 45, 46, 47, 48, 49, 50, 51] (by decide +kernel) (by decide +kernel)
set_option maxRecDepth 20000 in
theorem gX4_orders_X4_comes : GoodIn wsX4_orders (wsV RX4 61 RX4 yX4_comes wsX4_comes) := goodIn_app (goodIn_of _ (by decide +kernel)) ggX4_orders_X4_comes
set_option maxRecDepth 20000 in
theorem ggX4_orders_X4_carries : GoodIn wsX4_orders wsX4_carries := goodIn_r _ [43, 6, 1, 2, 3, 4, 5, 7, 8, 9, 10, 11, 12, 13, 14, 15, 16, 17, 18, 19, 20, 21, 22, 23, 24, 25, 26, 27, 28, 29, 30, 31, 32, 33, 34, 35, 36, 37, 38, 39, 44, 45, 46, 47, 48, 49, 50, 51] (by decide +kernel) (by decide +kernel)
set_option maxRecDepth 20000 in
theorem gX4_orders_X4_carries : GoodIn wsX4_orders (wsV RX4 65 RX4 yX4_carries wsX4_carries) := goodIn_app (goodIn_of _ (by decide +kernel)) ggX4_orders_X4_carries
theorem dX4_orders_0 : decode cX4_orders 0 = .ok (.aload_n 0, 1) := by decide +kernel
theorem dX4_orders_1 : decode cX4_orders 1 = .ok (.iload_n 1, 1) := by decide +kernel
theorem dX4_orders_2 : decode cX4_orders 2 = .ok (.invokevirtual 54, 3) := by decide +kernel
theorem dX4_orders_5 : decode cX4_orders 5 = .ok (.bipush 10, 2) := by decide +kernel
theorem dX4_orders_7 : decode cX4_orders 7 = .ok (.if_icmp .lt 19, 3) := by decide +kernel
theorem dX4_orders_10 : decode cX4_orders 10 = .ok (.aload_n 0, 1) := by decide +kernel
theorem dX4_orders_11 : decode cX4_orders 11 = .ok (.iload_n 1, 1) := by decide +kernel
theorem dX4_orders_12 : decode cX4_orders 12 = .ok (.aload_n 0, 1) := by decide +kernel
theorem dX4_orders_13 : decode cX4_orders 13 = .ok (.iload_n 1, 1) := by decide +kernel
theorem dX4_orders_14 : decode cX4_orders 14 = .ok (.invokevirtual 54, 3) := by decide +kernel
theorem dX4_orders_17 : decode cX4_orders 17 = .ok (.bipush 10, 2) := by decide +kernel
theorem dX4_orders_19 : decode cX4_orders 19 = .ok (.isub, 1) := by decide +kernel
theorem dX4_orders_20 : decode cX4_orders 20 = .ok (.invokevirtual 57, 3) := by decide +kernel
theorem dX4_orders_23 : decode cX4_orders 23 = .ok (.ifCond .ne 5, 3) := by decide +kernel
theorem dX4_orders_26 : decode cX4_orders 26 = .ok (.iconst 0, 1) := by decide +kernel
theorem dX4_orders_27 : decode cX4_orders 27 = .ok (.ireturn, 1) := by decide +kernel
theorem dX4_orders_28 : decode cX4_orders 28 = .ok (.aload_n 0, 1) := by decide +kernel
theorem dX4_orders_29 : decode cX4_orders 29 = .ok (.iload_n 1, 1) := by decide +kernel
theorem dX4_orders_30 : decode cX4_orders 30 = .ok (.aload_n 0, 1) := by decide +kernel
theorem dX4_orders_31 : decode cX4_orders 31 = .ok (.iload_n 1, 1) := by decide +kernel
theorem dX4_orders_32 : decode cX4_orders 32 = .ok (.invokevirtual 54, 3) := by decide +kernel
theorem dX4_orders_35 : decode cX4_orders 35 = .ok (.bipush 10, 2) := by decide +kernel
theorem dX4_orders_37 : decode cX4_orders 37 = .ok (.isub, 1) := by decide +kernel
theorem dX4_orders_38 : decode cX4_orders 38 = .ok (.invokevirtual 61, 3) := by decide +kernel
theorem dX4_orders_41 : decode cX4_orders 41 = .ok (.aload_n 0, 1) := by decide +kernel
theorem dX4_orders_42 : decode cX4_orders 42 = .ok (.iload_n 1, 1) := by decide +kernel
theorem dX4_orders_43 : decode cX4_orders 43 = .ok (.iconst 1, 1) := by decide +kernel
theorem dX4_orders_44 : decode cX4_orders 44 = .ok (.iadd, 1) := by decide +kernel
theorem dX4_orders_45 : decode cX4_orders 45 = .ok (.iconst 1, 1) := by decide +kernel
theorem dX4_orders_46 : decode cX4_orders 46 = .ok (.invokevirtual 65, 3) := by decide +kernel
theorem dX4_orders_49 : decode cX4_orders 49 = .ok (.ireturn, 1) := by decide +kernel
set_option maxRecDepth 20000 in
theorem ggX4_tries_X4_putAside : GoodIn wsX4_tries wsX4_putAside := goodIn_r _ [5, 6, 7, 65, 66, 67, 68, 69, 70, 71, 72] (by decide +kernel) (by decide +kernel)
set_option maxRecDepth 20000 in
theorem gX4_tries_X4_putAside : GoodIn wsX4_tries (wsV RX4 71 RX4 yX4_putAside wsX4_putAside) := goodIn_app (goodIn_of _ (by decide +kernel)) ggX4_tries_X4_putAside
set_option maxRecDepth 20000 in
theorem ggX4_tries_X4_adds : GoodIn wsX4_tries wsX4_adds := goodIn_r _ [11, 12, 13, 14, 4, 15, 7, 16, 17, 18, 19, 20, 21, 22, 23, 24, 25, 26, 27, 28, 29, 30, 31, 32, 33, 34, 35, 36, 37, 38, 39, 40, 41, 42, 43, 44, 45, 46, 47, 48, 49, 50, 51, 52, 65, 66, 67, 68, 69, 70, 71, 72] (by decide +kernel) (by decide +kernel)
set_option maxRecDepth 20000 in
theorem gX4_tries_X4_adds : GoodIn wsX4_tries (wsV RX4 68 RX4 yX4_adds wsX4_adds) := goodIn_app (goodIn_of _ (by decide +kernel)) ggX4_tries_X4_adds
set_option maxRecDepth 20000 in
theorem ggX4_tries_X4_pays : GoodIn wsX4_tries wsX4_pays := goodIn_r _ [56, 7, 16, 17, 4, 18, 8, 9, 10, 11, 12, 13, 14, 15, 19, 20, 21, 22, 23, 24, 25, 26, 27, 28, 29, 30, 31, 32, 33, 34, 35, 36, 37, 38, 39, 40, 41, 42, 43, 44, 45, 46, 47, 48, 49, 50, 51, 52, 65, 66, 67, 68, 69, 70, 71, 72] (by decide +kernel) (by decide +kernel)
set_option maxRecDepth 20000 in
theorem gX4_tries_X4_pays : GoodIn wsX4_tries (wsV RX4 74 RX4 yX4_pays wsX4_pays) := goodIn_app (goodIn_of _ (by decide +kernel)) ggX4_tries_X4_pays
set_option maxRecDepth 20000 in
theorem ggX4_tries_X4_orders : GoodIn wsX4_tries wsX4_orders := goodIn_r _ [60, 12, 13, 14, 4, 15, 7, 16, 17, 18, 19, 20, 21, 22, 23, 24, 25, 26, 27, 28, 29, 30, 31, 32, 33, 34, 35, 36, 37, 38, 39, 40, 41, 42, 43, 44, 45, 46, 47, 48, 49, 50, 51, 52, 65, 66, 67, 68, 69, 70, 71, 72] (by decide +kernel) (by decide +kernel)
set_option maxRecDepth 20000 in
theorem gX4_tries_X4_orders : GoodIn wsX4_tries (wsV RX4 78 RX4 yX4_orders wsX4_orders) := goodIn_app (goodIn_of _ (by decide +kernel)) ggX4_tries_X4_orders
set_option maxRecDepth 20000 in
theorem ggX4_tries_X4_putBack : GoodIn wsX4_tries wsX4_putBack := goodIn_r _ [64, 7, 6, 65, 66, 67, 68, 69, 70, 71, 72] (by decide +kernel) (by decide +kernel)
set_option maxRecDepth 20000 in
theorem gX4_tries_X4_putBack : GoodIn wsX4_tries (wsV RX4 81 RX4 yX4_putBack wsX4_putBack) := goodIn_app (goodIn_of _ (by decide +kernel)) ggX4_tries_X4_putBack
theorem dX4_tries_0 : decode cX4_tries 0 = .ok (.aload_n 0, 1) := by decide +kernel
theorem dX4_tries_1 : decode cX4_tries 1 = .ok (.invokevirtual 71, 3) := by decide +kernel
theorem dX4_tries_4 : decode cX4_tries 4 = .ok (.iload_n 1, 1) := by decide +kernel
theorem dX4_tries_5 : decode cX4_tries 5 = .ok (.ifCond .ne 12, 3) := by decide +kernel
theorem dX4_tries_8 : decode cX4_tries 8 = .ok (.aload_n 0, 1) := by decide +kernel
theorem dX4_tries_9 : decode cX4_tries 9 = .ok (.iload_n 2, 1) := by decide +kernel
theorem dX4_tries_10 : decode cX4_tries 10 = .ok (.iload_n 3, 1) := by decide +kernel
theorem dX4_tries_11 : decode cX4_tries 11 = .ok (.invokevirtual 68, 3) := by decide +kernel
theorem dX4_tries_14 : decode cX4_tries 14 = .ok (.goto 21, 3) := by decide +kernel
theorem dX4_tries_17 : decode cX4_tries 17 = .ok (.iload_n 1, 1) := by decide +kernel
theorem dX4_tries_18 : decode cX4_tries 18 = .ok (.iconst 1, 1) := by decide +kernel
theorem dX4_tries_19 : decode cX4_tries 19 = .ok (.if_icmp .ne 11, 3) := by decide +kernel
theorem dX4_tries_22 : decode cX4_tries 22 = .ok (.aload_n 0, 1) := by decide +kernel
theorem dX4_tries_23 : decode cX4_tries 23 = .ok (.iload_n 2, 1) := by decide +kernel
theorem dX4_tries_24 : decode cX4_tries 24 = .ok (.invokevirtual 74, 3) := by decide +kernel
theorem dX4_tries_27 : decode cX4_tries 27 = .ok (.goto 8, 3) := by decide +kernel
theorem dX4_tries_30 : decode cX4_tries 30 = .ok (.aload_n 0, 1) := by decide +kernel
theorem dX4_tries_31 : decode cX4_tries 31 = .ok (.iload_n 2, 1) := by decide +kernel
theorem dX4_tries_32 : decode cX4_tries 32 = .ok (.invokevirtual 78, 3) := by decide +kernel
theorem dX4_tries_35 : decode cX4_tries 35 = .ok (.istore 4, 2) := by decide +kernel
theorem dX4_tries_37 : decode cX4_tries 37 = .ok (.iload 4, 2) := by decide +kernel
theorem dX4_tries_39 : decode cX4_tries 39 = .ok (.ifCond .ne 7, 3) := by decide +kernel
theorem dX4_tries_42 : decode cX4_tries 42 = .ok (.aload_n 0, 1) := by decide +kernel
theorem dX4_tries_43 : decode cX4_tries 43 = .ok (.invokevirtual 81, 3) := by decide +kernel
theorem dX4_tries_46 : decode cX4_tries 46 = .ok (.iload 4, 2) := by decide +kernel
theorem dX4_tries_48 : decode cX4_tries 48 = .ok (.ireturn, 1) := by decide +kernel
set_option maxRecDepth 20000 in
theorem ggX4_move_X4_isRod : GoodIn wsX4_move wsX4_isRod := goodIn_r _ [4, 5, 6, 3, 7] (by decide +kernel) (by decide +kernel)
set_option maxRecDepth 20000 in
theorem gX4_move_X4_isRod : GoodIn wsX4_move (va_wsS RX4 84 yX4_isRod wsX4_isRod) := goodIn_app (goodIn_of _ (by decide +kernel)) ggX4_move_X4_isRod
set_option maxRecDepth 20000 in
theorem ggX4_move_X4_in : GoodIn wsX4_move wsX4_in := goodIn_r _ [7] (by decide +kernel) (by decide +kernel)
set_option maxRecDepth 20000 in
theorem gX4_move_X4_in : GoodIn wsX4_move (va_wsS RX4 26 yX4_in wsX4_in) := goodIn_app (goodIn_of _ (by decide +kernel)) ggX4_move_X4_in
set_option maxRecDepth 20000 in
theorem ggX4_move_X4_isLoose : GoodIn wsX4_move wsX4_isLoose := goodIn_r _ [11, 12, 13, 14, 3, 15, 38, 39, 40, 41, 42, 43, 44, 45] (by decide +kernel) (by decide +kernel)
set_option maxRecDepth 20000 in
theorem gX4_move_X4_isLoose : GoodIn wsX4_move (wsV RX4 41 RX4 yX4_isLoose wsX4_isLoose) := goodIn_app (goodIn_of _ (by decide +kernel)) ggX4_move_X4_isLoose
set_option maxRecDepth 20000 in
theorem ggX4_move_X4_holds : GoodIn wsX4_move wsX4_holds := goodIn_r _ [19, 20, 38, 39, 40, 41, 42, 43, 44, 45] (by decide +kernel) (by decide +kernel)
set_option maxRecDepth 20000 in
theorem gX4_move_X4_holds : GoodIn wsX4_move (wsV RX4 87 RX4 yX4_holds wsX4_holds) := goodIn_app (goodIn_of _ (by decide +kernel)) ggX4_move_X4_holds
set_option maxRecDepth 20000 in
theorem ggX4_move_X4_save : GoodIn wsX4_move wsX4_save := goodIn_r _ [24, 25, 26, 12, 38, 39, 40, 41, 42, 43, 44, 45] (by decide +kernel) (by decide +kernel)
set_option maxRecDepth 20000 in
theorem gX4_move_X4_save : GoodIn wsX4_move (wsV RX4 90 RX4 yX4_save wsX4_save) := goodIn_app (goodIn_of _ (by decide +kernel)) ggX4_move_X4_save
set_option maxRecDepth 20000 in
theorem ggX4_move_X4_movesBeads : GoodIn wsX4_move wsX4_movesBeads := goodIn_r _ [30, 12, 31, 32, 33, 3, 34, 13, 14, 15, 35, 36, 37, 38, 39, 40, 41, 42, 43, 44, 45] (by decide +kernel) (by decide +kernel)
set_option maxRecDepth 20000 in
theorem gX4_move_X4_movesBeads : GoodIn wsX4_move (wsV RX4 51 RX4 yX4_movesBeads wsX4_movesBeads) := goodIn_app (goodIn_of _ (by decide +kernel)) ggX4_move_X4_movesBeads
theorem dX4_move_0 : decode cX4_move 0 = .ok (.aload_n 0, 1) := by decide +kernel
theorem dX4_move_1 : decode cX4_move 1 = .ok (.iload_n 1, 1) := by decide +kernel
theorem dX4_move_2 : decode cX4_move 2 = .ok (.invokestatic 84, 3) := by decide +kernel
theorem dX4_move_5 : decode cX4_move 5 = .ok (.ifCond .ne 7, 3) := by decide +kernel
theorem dX4_move_8 : decode cX4_move 8 = .ok (.iconst 1, 1) := by decide +kernel
theorem dX4_move_9 : decode cX4_move 9 = .ok (.goto 40, 3) := by decide +kernel
theorem dX4_move_12 : decode cX4_move 12 = .ok (.iload_n 2, 1) := by decide +kernel
theorem dX4_move_13 : decode cX4_move 13 = .ok (.iconst 0, 1) := by decide +kernel
theorem dX4_move_14 : decode cX4_move 14 = .ok (.iconst 2, 1) := by decide +kernel
theorem dX4_move_15 : decode cX4_move 15 = .ok (.invokestatic 26, 3) := by decide +kernel
theorem dX4_move_18 : decode cX4_move 18 = .ok (.ifCond .eq 12, 3) := by decide +kernel
theorem dX4_move_21 : decode cX4_move 21 = .ok (.iload_n 3, 1) := by decide +kernel
theorem dX4_move_22 : decode cX4_move 22 = .ok (.iconst 0, 1) := by decide +kernel
theorem dX4_move_23 : decode cX4_move 23 = .ok (.iconst 5, 1) := by decide +kernel
theorem dX4_move_24 : decode cX4_move 24 = .ok (.invokestatic 26, 3) := by decide +kernel
theorem dX4_move_27 : decode cX4_move 27 = .ok (.ifCond .ne 7, 3) := by decide +kernel
theorem dX4_move_30 : decode cX4_move 30 = .ok (.iconst 2, 1) := by decide +kernel
theorem dX4_move_31 : decode cX4_move 31 = .ok (.goto 18, 3) := by decide +kernel
theorem dX4_move_34 : decode cX4_move 34 = .ok (.aload_n 0, 1) := by decide +kernel
theorem dX4_move_35 : decode cX4_move 35 = .ok (.iload_n 1, 1) := by decide +kernel
theorem dX4_move_36 : decode cX4_move 36 = .ok (.iload_n 2, 1) := by decide +kernel
theorem dX4_move_37 : decode cX4_move 37 = .ok (.iload_n 3, 1) := by decide +kernel
theorem dX4_move_38 : decode cX4_move 38 = .ok (.invokevirtual 41, 3) := by decide +kernel
theorem dX4_move_41 : decode cX4_move 41 = .ok (.ifCond .ne 7, 3) := by decide +kernel
theorem dX4_move_44 : decode cX4_move 44 = .ok (.iconst 3, 1) := by decide +kernel
theorem dX4_move_45 : decode cX4_move 45 = .ok (.goto 4, 3) := by decide +kernel
theorem dX4_move_48 : decode cX4_move 48 = .ok (.iconst 0, 1) := by decide +kernel
theorem dX4_move_49 : decode cX4_move 49 = .ok (.invokevirtual 87, 3) := by decide +kernel
theorem dX4_move_52 : decode cX4_move 52 = .ok (.ifCond .ne 5, 3) := by decide +kernel
theorem dX4_move_55 : decode cX4_move 55 = .ok (.iconst 0, 1) := by decide +kernel
theorem dX4_move_56 : decode cX4_move 56 = .ok (.ireturn, 1) := by decide +kernel
theorem dX4_move_57 : decode cX4_move 57 = .ok (.aload_n 0, 1) := by decide +kernel
theorem dX4_move_58 : decode cX4_move 58 = .ok (.invokevirtual 90, 3) := by decide +kernel
theorem dX4_move_61 : decode cX4_move 61 = .ok (.aload_n 0, 1) := by decide +kernel
theorem dX4_move_62 : decode cX4_move 62 = .ok (.iload_n 1, 1) := by decide +kernel
theorem dX4_move_63 : decode cX4_move 63 = .ok (.iload_n 2, 1) := by decide +kernel
theorem dX4_move_64 : decode cX4_move 64 = .ok (.iload_n 3, 1) := by decide +kernel
theorem dX4_move_65 : decode cX4_move 65 = .ok (.invokevirtual 51, 3) := by decide +kernel
theorem dX4_move_68 : decode cX4_move 68 = .ok (.ireturn, 1) := by decide +kernel
set_option maxRecDepth 20000 in
theorem ggX4_puts_X4_save : GoodIn wsX4_puts wsX4_save := goodIn_r _ [6, 7, 8, 1, 9, 10, 11, 12, 13, 14, 15, 16] (by decide +kernel) (by decide +kernel)
set_option maxRecDepth 20000 in
theorem gX4_puts_X4_save : GoodIn wsX4_puts (wsV RX4 90 RX4 yX4_save wsX4_save) := goodIn_app (goodIn_of _ (by decide +kernel)) ggX4_puts_X4_save
theorem dX4_puts_0 : decode cX4_puts 0 = .ok (.aload_n 0, 1) := by decide +kernel
theorem dX4_puts_1 : decode cX4_puts 1 = .ok (.invokevirtual 90, 3) := by decide +kernel
theorem dX4_puts_4 : decode cX4_puts 4 = .ok (.aload_n 0, 1) := by decide +kernel
theorem dX4_puts_5 : decode cX4_puts 5 = .ok (.getfield 7, 3) := by decide +kernel
theorem dX4_puts_8 : decode cX4_puts 8 = .ok (.iload_n 1, 1) := by decide +kernel
theorem dX4_puts_9 : decode cX4_puts 9 = .ok (.iaload, 1) := by decide +kernel
theorem dX4_puts_10 : decode cX4_puts 10 = .ok (.istore_n 3, 1) := by decide +kernel
theorem dX4_puts_11 : decode cX4_puts 11 = .ok (.aload_n 0, 1) := by decide +kernel
theorem dX4_puts_12 : decode cX4_puts 12 = .ok (.getfield 7, 3) := by decide +kernel
theorem dX4_puts_15 : decode cX4_puts 15 = .ok (.iload_n 1, 1) := by decide +kernel
theorem dX4_puts_16 : decode cX4_puts 16 = .ok (.iload_n 2, 1) := by decide +kernel
theorem dX4_puts_17 : decode cX4_puts 17 = .ok (.iastore, 1) := by decide +kernel
theorem dX4_puts_18 : decode cX4_puts 18 = .ok (.iload_n 3, 1) := by decide +kernel
theorem dX4_puts_19 : decode cX4_puts 19 = .ok (.ireturn, 1) := by decide +kernel
set_option maxRecDepth 20000 in
theorem ggX4_stick_X4_isRod : GoodIn wsX4_stick wsX4_isRod := goodIn_r _ [4, 5, 6, 3, 7] (by decide +kernel) (by decide +kernel)
set_option maxRecDepth 20000 in
theorem gX4_stick_X4_isRod : GoodIn wsX4_stick (va_wsS RX4 84 yX4_isRod wsX4_isRod) := goodIn_app (goodIn_of _ (by decide +kernel)) ggX4_stick_X4_isRod
set_option maxRecDepth 20000 in
theorem ggX4_stick_X4_in : GoodIn wsX4_stick wsX4_in := goodIn_r _ [7] (by decide +kernel) (by decide +kernel)
set_option maxRecDepth 20000 in
theorem gX4_stick_X4_in : GoodIn wsX4_stick (va_wsS RX4 26 yX4_in wsX4_in) := goodIn_app (goodIn_of _ (by decide +kernel)) ggX4_stick_X4_in
set_option maxRecDepth 20000 in
theorem ggX4_stick_X4_holds : GoodIn wsX4_stick wsX4_holds := goodIn_r _ [11, 12, 27, 28, 29, 30, 31, 32, 33, 34] (by decide +kernel) (by decide +kernel)
set_option maxRecDepth 20000 in
theorem gX4_stick_X4_holds : GoodIn wsX4_stick (wsV RX4 87 RX4 yX4_holds wsX4_holds) := goodIn_app (goodIn_of _ (by decide +kernel)) ggX4_stick_X4_holds
set_option maxRecDepth 20000 in
theorem ggX4_stick_X4_of : GoodIn wsX4_stick wsX4_of := goodIn_r _ [15] (by decide +kernel) (by decide +kernel)
set_option maxRecDepth 20000 in
theorem gX4_stick_X4_of : GoodIn wsX4_stick (va_wsS RX4 33 yX4_of wsX4_of) := goodIn_app (goodIn_of _ (by decide +kernel)) ggX4_stick_X4_of
set_option maxRecDepth 20000 in
theorem ggX4_stick_X4_puts : GoodIn wsX4_stick wsX4_puts := goodIn_r _ [19, 20, 21, 22, 23, 3, 24, 25, 26, 27, 28, 29, 30, 31, 32, 33, 34] (by decide +kernel) (by decide +kernel)
set_option maxRecDepth 20000 in
theorem gX4_stick_X4_puts : GoodIn wsX4_stick (wsV RX4 93 RX4 yX4_puts wsX4_puts) := goodIn_app (goodIn_of _ (by decide +kernel)) ggX4_stick_X4_puts
theorem dX4_stick_0 : decode cX4_stick 0 = .ok (.aload_n 0, 1) := by decide +kernel
theorem dX4_stick_1 : decode cX4_stick 1 = .ok (.iload_n 1, 1) := by decide +kernel
theorem dX4_stick_2 : decode cX4_stick 2 = .ok (.invokestatic 84, 3) := by decide +kernel
theorem dX4_stick_5 : decode cX4_stick 5 = .ok (.ifCond .ne 7, 3) := by decide +kernel
theorem dX4_stick_8 : decode cX4_stick 8 = .ok (.iconst 1, 1) := by decide +kernel
theorem dX4_stick_9 : decode cX4_stick 9 = .ok (.goto 17, 3) := by decide +kernel
theorem dX4_stick_12 : decode cX4_stick 12 = .ok (.iload_n 2, 1) := by decide +kernel
theorem dX4_stick_13 : decode cX4_stick 13 = .ok (.iconst 0, 1) := by decide +kernel
theorem dX4_stick_14 : decode cX4_stick 14 = .ok (.iconst 3, 1) := by decide +kernel
theorem dX4_stick_15 : decode cX4_stick 15 = .ok (.invokestatic 26, 3) := by decide +kernel
theorem dX4_stick_18 : decode cX4_stick 18 = .ok (.ifCond .ne 7, 3) := by decide +kernel
theorem dX4_stick_21 : decode cX4_stick 21 = .ok (.iconst 2, 1) := by decide +kernel
theorem dX4_stick_22 : decode cX4_stick 22 = .ok (.goto 4, 3) := by decide +kernel
theorem dX4_stick_25 : decode cX4_stick 25 = .ok (.iconst 0, 1) := by decide +kernel
theorem dX4_stick_26 : decode cX4_stick 26 = .ok (.invokevirtual 87, 3) := by decide +kernel
theorem dX4_stick_29 : decode cX4_stick 29 = .ok (.ifCond .eq 16, 3) := by decide +kernel
theorem dX4_stick_32 : decode cX4_stick 32 = .ok (.aload_n 0, 1) := by decide +kernel
theorem dX4_stick_33 : decode cX4_stick 33 = .ok (.iload_n 1, 1) := by decide +kernel
theorem dX4_stick_34 : decode cX4_stick 34 = .ok (.iconst 3, 1) := by decide +kernel
theorem dX4_stick_35 : decode cX4_stick 35 = .ok (.invokestatic 33, 3) := by decide +kernel
theorem dX4_stick_38 : decode cX4_stick 38 = .ok (.iload_n 2, 1) := by decide +kernel
theorem dX4_stick_39 : decode cX4_stick 39 = .ok (.invokevirtual 93, 3) := by decide +kernel
theorem dX4_stick_42 : decode cX4_stick 42 = .ok (.goto 4, 3) := by decide +kernel
theorem dX4_stick_45 : decode cX4_stick 45 = .ok (.iconst 0, 1) := by decide +kernel
theorem dX4_stick_46 : decode cX4_stick 46 = .ok (.ireturn, 1) := by decide +kernel
set_option maxRecDepth 20000 in
theorem ggX4_set_X4_in : GoodIn wsX4_set wsX4_in := goodIn_r _ [4] (by decide +kernel) (by decide +kernel)
set_option maxRecDepth 20000 in
theorem gX4_set_X4_in : GoodIn wsX4_set (va_wsS RX4 26 yX4_in wsX4_in) := goodIn_app (goodIn_of _ (by decide +kernel)) ggX4_set_X4_in
set_option maxRecDepth 20000 in
theorem ggX4_set_X4_holds : GoodIn wsX4_set wsX4_holds := goodIn_r _ [8, 9, 21, 22, 23, 24, 25, 26, 27, 28] (by decide +kernel) (by decide +kernel)
set_option maxRecDepth 20000 in
theorem gX4_set_X4_holds : GoodIn wsX4_set (wsV RX4 87 RX4 yX4_holds wsX4_holds) := goodIn_app (goodIn_of _ (by decide +kernel)) ggX4_set_X4_holds
set_option maxRecDepth 20000 in
theorem ggX4_set_X4_puts : GoodIn wsX4_set wsX4_puts := goodIn_r _ [13, 14, 15, 16, 17, 3, 18, 19, 20, 21, 22, 23, 24, 25, 26, 27, 28] (by decide +kernel) (by decide +kernel)
set_option maxRecDepth 20000 in
theorem gX4_set_X4_puts : GoodIn wsX4_set (wsV RX4 93 RX4 yX4_puts wsX4_puts) := goodIn_app (goodIn_of _ (by decide +kernel)) ggX4_set_X4_puts
theorem dX4_set_0 : decode cX4_set 0 = .ok (.aload_n 0, 1) := by decide +kernel
theorem dX4_set_1 : decode cX4_set 1 = .ok (.iload_n 1, 1) := by decide +kernel
theorem dX4_set_2 : decode cX4_set 2 = .ok (.iconst 0, 1) := by decide +kernel
theorem dX4_set_3 : decode cX4_set 3 = .ok (.bipush 9, 2) := by decide +kernel
theorem dX4_set_5 : decode cX4_set 5 = .ok (.invokestatic 26, 3) := by decide +kernel
theorem dX4_set_8 : decode cX4_set 8 = .ok (.ifCond .eq 7, 3) := by decide +kernel
theorem dX4_set_11 : decode cX4_set 11 = .ok (.iconst 0, 1) := by decide +kernel
theorem dX4_set_12 : decode cX4_set 12 = .ok (.goto 4, 3) := by decide +kernel
theorem dX4_set_15 : decode cX4_set 15 = .ok (.iconst 1, 1) := by decide +kernel
theorem dX4_set_16 : decode cX4_set 16 = .ok (.invokevirtual 87, 3) := by decide +kernel
theorem dX4_set_19 : decode cX4_set 19 = .ok (.ifCond .eq 12, 3) := by decide +kernel
theorem dX4_set_22 : decode cX4_set 22 = .ok (.aload_n 0, 1) := by decide +kernel
theorem dX4_set_23 : decode cX4_set 23 = .ok (.iconst 0, 1) := by decide +kernel
theorem dX4_set_24 : decode cX4_set 24 = .ok (.iload_n 1, 1) := by decide +kernel
theorem dX4_set_25 : decode cX4_set 25 = .ok (.invokevirtual 93, 3) := by decide +kernel
theorem dX4_set_28 : decode cX4_set 28 = .ok (.goto 4, 3) := by decide +kernel
theorem dX4_set_31 : decode cX4_set 31 = .ok (.iconst 0, 1) := by decide +kernel
theorem dX4_set_32 : decode cX4_set 32 = .ok (.ireturn, 1) := by decide +kernel
set_option maxRecDepth 20000 in
theorem ggX4_takes_X4_allMoves : GoodIn wsX4_takes wsX4_allMoves := goodIn_r _ [5, 6, 7, 8, 4, 9, 73, 74, 75, 76, 77, 78, 79, 80] (by decide +kernel) (by decide +kernel)
set_option maxRecDepth 20000 in
theorem gX4_takes_X4_allMoves : GoodIn wsX4_takes (wsV RX4 96 RX4 yX4_allMoves wsX4_allMoves) := goodIn_app (goodIn_of _ (by decide +kernel)) ggX4_takes_X4_allMoves
set_option maxRecDepth 20000 in
theorem ggX4_takes_X4_tries : GoodIn wsX4_takes wsX4_tries := goodIn_r _ [13, 14, 15, 16, 4, 17, 18, 6, 19, 20, 21, 22, 23, 24, 25, 26, 7, 8, 9, 27, 28, 29, 30, 31, 32, 33, 34, 35, 36, 37, 38, 39, 40, 41, 42, 43, 44, 45, 46, 47, 48, 49, 50, 51, 52, 53, 54, 55, 56, 57, 58, 59, 60, 61, 62, 63, 64, 65, 66, 67, 68, 69, 70, 71, 72, 73, 74, 75, 76, 77, 78, 79, 80] (by decide +kernel) (by decide +kernel)
set_option maxRecDepth 20000 in
theorem gX4_takes_X4_tries : GoodIn wsX4_takes (wsV RX4 100 RX4 yX4_tries wsX4_tries) := goodIn_app (goodIn_of _ (by decide +kernel)) ggX4_takes_X4_tries
set_option maxRecDepth 20000 in
theorem ggX4_takes_X4_putBack : GoodIn wsX4_takes wsX4_putBack := goodIn_r _ [72, 6, 18, 73, 74, 75, 76, 77, 78, 79, 80] (by decide +kernel) (by decide +kernel)
set_option maxRecDepth 20000 in
theorem gX4_takes_X4_putBack : GoodIn wsX4_takes (wsV RX4 81 RX4 yX4_putBack wsX4_putBack) := goodIn_app (goodIn_of _ (by decide +kernel)) ggX4_takes_X4_putBack
theorem dX4_takes_0 : decode cX4_takes 0 = .ok (.aload_n 0, 1) := by decide +kernel
theorem dX4_takes_1 : decode cX4_takes 1 = .ok (.invokevirtual 96, 3) := by decide +kernel
theorem dX4_takes_4 : decode cX4_takes 4 = .ok (.istore 4, 2) := by decide +kernel
theorem dX4_takes_6 : decode cX4_takes 6 = .ok (.aload_n 0, 1) := by decide +kernel
theorem dX4_takes_7 : decode cX4_takes 7 = .ok (.iload_n 1, 1) := by decide +kernel
theorem dX4_takes_8 : decode cX4_takes 8 = .ok (.iload_n 2, 1) := by decide +kernel
theorem dX4_takes_9 : decode cX4_takes 9 = .ok (.iload_n 3, 1) := by decide +kernel
theorem dX4_takes_10 : decode cX4_takes 10 = .ok (.invokevirtual 100, 3) := by decide +kernel
theorem dX4_takes_13 : decode cX4_takes 13 = .ok (.istore 5, 2) := by decide +kernel
theorem dX4_takes_15 : decode cX4_takes 15 = .ok (.aload_n 0, 1) := by decide +kernel
theorem dX4_takes_16 : decode cX4_takes 16 = .ok (.invokevirtual 96, 3) := by decide +kernel
theorem dX4_takes_19 : decode cX4_takes 19 = .ok (.iload 4, 2) := by decide +kernel
theorem dX4_takes_21 : decode cX4_takes 21 = .ok (.isub, 1) := by decide +kernel
theorem dX4_takes_22 : decode cX4_takes 22 = .ok (.istore 6, 2) := by decide +kernel
theorem dX4_takes_24 : decode cX4_takes 24 = .ok (.aload_n 0, 1) := by decide +kernel
theorem dX4_takes_25 : decode cX4_takes 25 = .ok (.invokevirtual 81, 3) := by decide +kernel
theorem dX4_takes_28 : decode cX4_takes 28 = .ok (.iload 5, 2) := by decide +kernel
theorem dX4_takes_30 : decode cX4_takes 30 = .ok (.ifCond .eq 8, 3) := by decide +kernel
theorem dX4_takes_33 : decode cX4_takes 33 = .ok (.iload 6, 2) := by decide +kernel
theorem dX4_takes_35 : decode cX4_takes 35 = .ok (.goto 4, 3) := by decide +kernel
theorem dX4_takes_38 : decode cX4_takes 38 = .ok (.iconst (-1), 1) := by decide +kernel
theorem dX4_takes_39 : decode cX4_takes 39 = .ok (.ireturn, 1) := by decide +kernel
set_option maxRecDepth 20000 in
theorem ggX4_does_X4_save : GoodIn wsX4_does wsX4_save := goodIn_r _ [5, 6, 7, 8, 79, 80, 81, 82, 83, 84, 85, 86] (by decide +kernel) (by decide +kernel)
set_option maxRecDepth 20000 in
theorem gX4_does_X4_save : GoodIn wsX4_does (wsV RX4 90 RX4 yX4_save wsX4_save) := goodIn_app (goodIn_of _ (by decide +kernel)) ggX4_does_X4_save
set_option maxRecDepth 20000 in
theorem ggX4_does_X4_allMoves : GoodIn wsX4_does wsX4_allMoves := goodIn_r _ [12, 8, 13, 14, 4, 15, 79, 80, 81, 82, 83, 84, 85, 86] (by decide +kernel) (by decide +kernel)
set_option maxRecDepth 20000 in
theorem gX4_does_X4_allMoves : GoodIn wsX4_does (wsV RX4 96 RX4 yX4_allMoves wsX4_allMoves) := goodIn_app (goodIn_of _ (by decide +kernel)) ggX4_does_X4_allMoves
set_option maxRecDepth 20000 in
theorem ggX4_does_X4_tries : GoodIn wsX4_does wsX4_tries := goodIn_r _ [19, 20, 21, 22, 4, 23, 24, 8, 25, 26, 27, 28, 29, 30, 31, 32, 13, 14, 15, 33, 34, 35, 36, 37, 38, 39, 40, 41, 42, 43, 44, 45, 46, 47, 48, 49, 50, 51, 52, 53, 54, 55, 56, 57, 58, 59, 60, 61, 62, 63, 64, 65, 66, 67, 68, 69, 70, 71, 72, 73, 74, 75, 76, 77, 78, 79, 80, 81, 82, 83, 84, 85, 86] (by decide +kernel) (by decide +kernel)
set_option maxRecDepth 20000 in
theorem gX4_does_X4_tries : GoodIn wsX4_does (wsV RX4 100 RX4 yX4_tries wsX4_tries) := goodIn_app (goodIn_of _ (by decide +kernel)) ggX4_does_X4_tries
theorem dX4_does_0 : decode cX4_does 0 = .ok (.aload_n 0, 1) := by decide +kernel
theorem dX4_does_1 : decode cX4_does 1 = .ok (.invokevirtual 90, 3) := by decide +kernel
theorem dX4_does_4 : decode cX4_does 4 = .ok (.aload_n 0, 1) := by decide +kernel
theorem dX4_does_5 : decode cX4_does 5 = .ok (.invokevirtual 96, 3) := by decide +kernel
theorem dX4_does_8 : decode cX4_does 8 = .ok (.istore 4, 2) := by decide +kernel
theorem dX4_does_10 : decode cX4_does 10 = .ok (.aload_n 0, 1) := by decide +kernel
theorem dX4_does_11 : decode cX4_does 11 = .ok (.iload_n 1, 1) := by decide +kernel
theorem dX4_does_12 : decode cX4_does 12 = .ok (.iload_n 2, 1) := by decide +kernel
theorem dX4_does_13 : decode cX4_does 13 = .ok (.iload_n 3, 1) := by decide +kernel
theorem dX4_does_14 : decode cX4_does 14 = .ok (.invokevirtual 100, 3) := by decide +kernel
theorem dX4_does_17 : decode cX4_does 17 = .ok (.istore 5, 2) := by decide +kernel
theorem dX4_does_19 : decode cX4_does 19 = .ok (.aload_n 0, 1) := by decide +kernel
theorem dX4_does_20 : decode cX4_does 20 = .ok (.invokevirtual 96, 3) := by decide +kernel
theorem dX4_does_23 : decode cX4_does 23 = .ok (.iload 4, 2) := by decide +kernel
theorem dX4_does_25 : decode cX4_does 25 = .ok (.isub, 1) := by decide +kernel
theorem dX4_does_26 : decode cX4_does 26 = .ok (.ireturn, 1) := by decide +kernel
set_option maxRecDepth 20000 in
theorem ggX4_add_X4_isRod : GoodIn wsX4_add wsX4_isRod := goodIn_r _ [4, 5, 6, 3, 7] (by decide +kernel) (by decide +kernel)
set_option maxRecDepth 20000 in
theorem gX4_add_X4_isRod : GoodIn wsX4_add (va_wsS RX4 84 yX4_isRod wsX4_isRod) := goodIn_app (goodIn_of _ (by decide +kernel)) ggX4_add_X4_isRod
set_option maxRecDepth 20000 in
theorem ggX4_add_X4_in : GoodIn wsX4_add wsX4_in := goodIn_r _ [7] (by decide +kernel) (by decide +kernel)
set_option maxRecDepth 20000 in
theorem gX4_add_X4_in : GoodIn wsX4_add (va_wsS RX4 26 yX4_in wsX4_in) := goodIn_app (goodIn_of _ (by decide +kernel)) ggX4_add_X4_in
set_option maxRecDepth 20000 in
theorem ggX4_add_X4_takes : GoodIn wsX4_add wsX4_takes := goodIn_r _ [11, 12, 13, 14, 3, 15, 16, 17, 18, 19, 20, 21, 22, 23, 24, 25, 26, 27, 28, 29, 30, 31, 32, 33, 34, 35, 36, 37, 38, 39, 40, 41, 42, 43, 44, 5, 6, 7, 45, 46, 47, 48, 49, 50, 51, 52, 53, 54, 55, 56, 57, 58, 59, 60, 61, 62, 63, 64, 65, 66, 67, 68, 69, 70, 71, 72, 73, 74, 75, 76, 77, 78, 79, 95, 96, 97, 98, 99, 100, 101, 102] (by decide +kernel) (by decide +kernel)
set_option maxRecDepth 20000 in
theorem gX4_add_X4_takes : GoodIn wsX4_add (wsV RX4 103 RX4 yX4_takes wsX4_takes) := goodIn_app (goodIn_of _ (by decide +kernel)) ggX4_add_X4_takes
set_option maxRecDepth 20000 in
theorem ggX4_add_X4_holds : GoodIn wsX4_add wsX4_holds := goodIn_r _ [83, 84, 95, 96, 97, 98, 99, 100, 101, 102] (by decide +kernel) (by decide +kernel)
set_option maxRecDepth 20000 in
theorem gX4_add_X4_holds : GoodIn wsX4_add (wsV RX4 87 RX4 yX4_holds wsX4_holds) := goodIn_app (goodIn_of _ (by decide +kernel)) ggX4_add_X4_holds
set_option maxRecDepth 20000 in
theorem ggX4_add_X4_does : GoodIn wsX4_add wsX4_does := goodIn_r _ [88, 89, 90, 91, 3, 92, 93, 94, 16, 12, 13, 14, 15, 17, 18, 19, 20, 21, 22, 23, 24, 25, 26, 27, 28, 29, 30, 31, 32, 33, 34, 35, 36, 37, 38, 39, 40, 41, 42, 43, 44, 5, 6, 7, 45, 46, 47, 48, 49, 50, 51, 52, 53, 54, 55, 56, 57, 58, 59, 60, 61, 62, 63, 64, 65, 66, 67, 68, 69, 70, 71, 72, 73, 74, 75, 76, 77, 78, 79, 95, 96, 97, 98, 99, 100, 101, 102] (by decide +kernel) (by decide +kernel)
set_option maxRecDepth 20000 in
theorem gX4_add_X4_does : GoodIn wsX4_add (wsV RX4 106 RX4 yX4_does wsX4_does) := goodIn_app (goodIn_of _ (by decide +kernel)) ggX4_add_X4_does
theorem dX4_add_0 : decode cX4_add 0 = .ok (.aload_n 0, 1) := by decide +kernel
theorem dX4_add_1 : decode cX4_add 1 = .ok (.iload_n 1, 1) := by decide +kernel
theorem dX4_add_2 : decode cX4_add 2 = .ok (.invokestatic 84, 3) := by decide +kernel
theorem dX4_add_5 : decode cX4_add 5 = .ok (.ifCond .ne 7, 3) := by decide +kernel
theorem dX4_add_8 : decode cX4_add 8 = .ok (.iconst 1, 1) := by decide +kernel
theorem dX4_add_9 : decode cX4_add 9 = .ok (.goto 33, 3) := by decide +kernel
theorem dX4_add_12 : decode cX4_add 12 = .ok (.iload_n 2, 1) := by decide +kernel
theorem dX4_add_13 : decode cX4_add 13 = .ok (.iconst 1, 1) := by decide +kernel
theorem dX4_add_14 : decode cX4_add 14 = .ok (.bipush 9, 2) := by decide +kernel
theorem dX4_add_16 : decode cX4_add 16 = .ok (.invokestatic 26, 3) := by decide +kernel
theorem dX4_add_19 : decode cX4_add 19 = .ok (.ifCond .ne 7, 3) := by decide +kernel
theorem dX4_add_22 : decode cX4_add 22 = .ok (.iconst 2, 1) := by decide +kernel
theorem dX4_add_23 : decode cX4_add 23 = .ok (.goto 19, 3) := by decide +kernel
theorem dX4_add_26 : decode cX4_add 26 = .ok (.aload_n 0, 1) := by decide +kernel
theorem dX4_add_27 : decode cX4_add 27 = .ok (.iconst 0, 1) := by decide +kernel
theorem dX4_add_28 : decode cX4_add 28 = .ok (.iload_n 1, 1) := by decide +kernel
theorem dX4_add_29 : decode cX4_add 29 = .ok (.iload_n 2, 1) := by decide +kernel
theorem dX4_add_30 : decode cX4_add 30 = .ok (.invokevirtual 103, 3) := by decide +kernel
theorem dX4_add_33 : decode cX4_add 33 = .ok (.iconst (-1), 1) := by decide +kernel
theorem dX4_add_34 : decode cX4_add 34 = .ok (.if_icmp .ne 7, 3) := by decide +kernel
theorem dX4_add_37 : decode cX4_add 37 = .ok (.iconst 3, 1) := by decide +kernel
theorem dX4_add_38 : decode cX4_add 38 = .ok (.goto 4, 3) := by decide +kernel
theorem dX4_add_41 : decode cX4_add 41 = .ok (.iconst 0, 1) := by decide +kernel
theorem dX4_add_42 : decode cX4_add 42 = .ok (.invokevirtual 87, 3) := by decide +kernel
theorem dX4_add_45 : decode cX4_add 45 = .ok (.ifCond .eq 13, 3) := by decide +kernel
theorem dX4_add_48 : decode cX4_add 48 = .ok (.aload_n 0, 1) := by decide +kernel
theorem dX4_add_49 : decode cX4_add 49 = .ok (.iconst 0, 1) := by decide +kernel
theorem dX4_add_50 : decode cX4_add 50 = .ok (.iload_n 1, 1) := by decide +kernel
theorem dX4_add_51 : decode cX4_add 51 = .ok (.iload_n 2, 1) := by decide +kernel
theorem dX4_add_52 : decode cX4_add 52 = .ok (.invokevirtual 106, 3) := by decide +kernel
theorem dX4_add_55 : decode cX4_add 55 = .ok (.goto 4, 3) := by decide +kernel
theorem dX4_add_58 : decode cX4_add 58 = .ok (.iconst 0, 1) := by decide +kernel
theorem dX4_add_59 : decode cX4_add 59 = .ok (.ireturn, 1) := by decide +kernel
set_option maxRecDepth 20000 in
theorem ggX4_less_X4_isRod : GoodIn wsX4_less wsX4_isRod := goodIn_r _ [4, 5, 6, 3, 7] (by decide +kernel) (by decide +kernel)
set_option maxRecDepth 20000 in
theorem gX4_less_X4_isRod : GoodIn wsX4_less (va_wsS RX4 84 yX4_isRod wsX4_isRod) := goodIn_app (goodIn_of _ (by decide +kernel)) ggX4_less_X4_isRod
set_option maxRecDepth 20000 in
theorem ggX4_less_X4_in : GoodIn wsX4_less wsX4_in := goodIn_r _ [7] (by decide +kernel) (by decide +kernel)
set_option maxRecDepth 20000 in
theorem gX4_less_X4_in : GoodIn wsX4_less (va_wsS RX4 26 yX4_in wsX4_in) := goodIn_app (goodIn_of _ (by decide +kernel)) ggX4_less_X4_in
set_option maxRecDepth 20000 in
theorem ggX4_less_X4_takes : GoodIn wsX4_less wsX4_takes := goodIn_r _ [11, 12, 13, 14, 3, 15, 16, 17, 18, 19, 20, 21, 22, 23, 24, 25, 26, 27, 28, 29, 30, 31, 32, 33, 34, 35, 36, 37, 38, 39, 40, 41, 42, 43, 44, 5, 6, 7, 45, 46, 47, 48, 49, 50, 51, 52, 53, 54, 55, 56, 57, 58, 59, 60, 61, 62, 63, 64, 65, 66, 67, 68, 69, 70, 71, 72, 73, 74, 75, 76, 77, 78, 79, 95, 96, 97, 98, 99, 100, 101, 102] (by decide +kernel) (by decide +kernel)
set_option maxRecDepth 20000 in
theorem gX4_less_X4_takes : GoodIn wsX4_less (wsV RX4 103 RX4 yX4_takes wsX4_takes) := goodIn_app (goodIn_of _ (by decide +kernel)) ggX4_less_X4_takes
set_option maxRecDepth 20000 in
theorem ggX4_less_X4_holds : GoodIn wsX4_less wsX4_holds := goodIn_r _ [83, 84, 95, 96, 97, 98, 99, 100, 101, 102] (by decide +kernel) (by decide +kernel)
set_option maxRecDepth 20000 in
theorem gX4_less_X4_holds : GoodIn wsX4_less (wsV RX4 87 RX4 yX4_holds wsX4_holds) := goodIn_app (goodIn_of _ (by decide +kernel)) ggX4_less_X4_holds
set_option maxRecDepth 20000 in
theorem ggX4_less_X4_does : GoodIn wsX4_less wsX4_does := goodIn_r _ [88, 89, 90, 91, 3, 92, 93, 94, 16, 12, 13, 14, 15, 17, 18, 19, 20, 21, 22, 23, 24, 25, 26, 27, 28, 29, 30, 31, 32, 33, 34, 35, 36, 37, 38, 39, 40, 41, 42, 43, 44, 5, 6, 7, 45, 46, 47, 48, 49, 50, 51, 52, 53, 54, 55, 56, 57, 58, 59, 60, 61, 62, 63, 64, 65, 66, 67, 68, 69, 70, 71, 72, 73, 74, 75, 76, 77, 78, 79, 95, 96, 97, 98, 99, 100, 101, 102] (by decide +kernel) (by decide +kernel)
set_option maxRecDepth 20000 in
theorem gX4_less_X4_does : GoodIn wsX4_less (wsV RX4 106 RX4 yX4_does wsX4_does) := goodIn_app (goodIn_of _ (by decide +kernel)) ggX4_less_X4_does
theorem dX4_less_0 : decode cX4_less 0 = .ok (.aload_n 0, 1) := by decide +kernel
theorem dX4_less_1 : decode cX4_less 1 = .ok (.iload_n 1, 1) := by decide +kernel
theorem dX4_less_2 : decode cX4_less 2 = .ok (.invokestatic 84, 3) := by decide +kernel
theorem dX4_less_5 : decode cX4_less 5 = .ok (.ifCond .ne 7, 3) := by decide +kernel
theorem dX4_less_8 : decode cX4_less 8 = .ok (.iconst 1, 1) := by decide +kernel
theorem dX4_less_9 : decode cX4_less 9 = .ok (.goto 34, 3) := by decide +kernel
theorem dX4_less_12 : decode cX4_less 12 = .ok (.iload_n 2, 1) := by decide +kernel
theorem dX4_less_13 : decode cX4_less 13 = .ok (.iconst 1, 1) := by decide +kernel
theorem dX4_less_14 : decode cX4_less 14 = .ok (.bipush 9, 2) := by decide +kernel
theorem dX4_less_16 : decode cX4_less 16 = .ok (.invokestatic 26, 3) := by decide +kernel
theorem dX4_less_19 : decode cX4_less 19 = .ok (.ifCond .ne 7, 3) := by decide +kernel
theorem dX4_less_22 : decode cX4_less 22 = .ok (.iconst 2, 1) := by decide +kernel
theorem dX4_less_23 : decode cX4_less 23 = .ok (.goto 20, 3) := by decide +kernel
theorem dX4_less_26 : decode cX4_less 26 = .ok (.aload_n 0, 1) := by decide +kernel
theorem dX4_less_27 : decode cX4_less 27 = .ok (.iconst 0, 1) := by decide +kernel
theorem dX4_less_28 : decode cX4_less 28 = .ok (.iload_n 1, 1) := by decide +kernel
theorem dX4_less_29 : decode cX4_less 29 = .ok (.iload_n 2, 1) := by decide +kernel
theorem dX4_less_30 : decode cX4_less 30 = .ok (.ineg, 1) := by decide +kernel
theorem dX4_less_31 : decode cX4_less 31 = .ok (.invokevirtual 103, 3) := by decide +kernel
theorem dX4_less_34 : decode cX4_less 34 = .ok (.iconst (-1), 1) := by decide +kernel
theorem dX4_less_35 : decode cX4_less 35 = .ok (.if_icmp .ne 7, 3) := by decide +kernel
theorem dX4_less_38 : decode cX4_less 38 = .ok (.iconst 3, 1) := by decide +kernel
theorem dX4_less_39 : decode cX4_less 39 = .ok (.goto 4, 3) := by decide +kernel
theorem dX4_less_42 : decode cX4_less 42 = .ok (.iconst 0, 1) := by decide +kernel
theorem dX4_less_43 : decode cX4_less 43 = .ok (.invokevirtual 87, 3) := by decide +kernel
theorem dX4_less_46 : decode cX4_less 46 = .ok (.ifCond .eq 14, 3) := by decide +kernel
theorem dX4_less_49 : decode cX4_less 49 = .ok (.aload_n 0, 1) := by decide +kernel
theorem dX4_less_50 : decode cX4_less 50 = .ok (.iconst 0, 1) := by decide +kernel
theorem dX4_less_51 : decode cX4_less 51 = .ok (.iload_n 1, 1) := by decide +kernel
theorem dX4_less_52 : decode cX4_less 52 = .ok (.iload_n 2, 1) := by decide +kernel
theorem dX4_less_53 : decode cX4_less 53 = .ok (.ineg, 1) := by decide +kernel
theorem dX4_less_54 : decode cX4_less 54 = .ok (.invokevirtual 106, 3) := by decide +kernel
theorem dX4_less_57 : decode cX4_less 57 = .ok (.goto 4, 3) := by decide +kernel
theorem dX4_less_60 : decode cX4_less 60 = .ok (.iconst 0, 1) := by decide +kernel
theorem dX4_less_61 : decode cX4_less 61 = .ok (.ireturn, 1) := by decide +kernel
set_option maxRecDepth 20000 in
theorem ggX4_pay_X4_isRod : GoodIn wsX4_pay wsX4_isRod := goodIn_r _ [4, 5, 6, 3, 7] (by decide +kernel) (by decide +kernel)
set_option maxRecDepth 20000 in
theorem gX4_pay_X4_isRod : GoodIn wsX4_pay (va_wsS RX4 84 yX4_isRod wsX4_isRod) := goodIn_app (goodIn_of _ (by decide +kernel)) ggX4_pay_X4_isRod
set_option maxRecDepth 20000 in
theorem ggX4_pay_X4_takes : GoodIn wsX4_pay wsX4_takes := goodIn_r _ [11, 12, 13, 14, 3, 15, 16, 17, 18, 19, 20, 21, 22, 23, 24, 25, 26, 27, 28, 29, 30, 31, 32, 33, 34, 35, 36, 37, 38, 39, 40, 41, 42, 43, 44, 5, 6, 7, 45, 46, 47, 48, 49, 50, 51, 52, 53, 54, 55, 56, 57, 58, 59, 60, 61, 62, 63, 64, 65, 66, 67, 68, 69, 70, 71, 72, 73, 74, 75, 76, 77, 78, 79, 95, 96, 97, 98, 99, 100, 101, 102] (by decide +kernel) (by decide +kernel)
set_option maxRecDepth 20000 in
theorem gX4_pay_X4_takes : GoodIn wsX4_pay (wsV RX4 103 RX4 yX4_takes wsX4_takes) := goodIn_app (goodIn_of _ (by decide +kernel)) ggX4_pay_X4_takes
set_option maxRecDepth 20000 in
theorem ggX4_pay_X4_holds : GoodIn wsX4_pay wsX4_holds := goodIn_r _ [83, 84, 95, 96, 97, 98, 99, 100, 101, 102] (by decide +kernel) (by decide +kernel)
set_option maxRecDepth 20000 in
theorem gX4_pay_X4_holds : GoodIn wsX4_pay (wsV RX4 87 RX4 yX4_holds wsX4_holds) := goodIn_app (goodIn_of _ (by decide +kernel)) ggX4_pay_X4_holds
set_option maxRecDepth 20000 in
theorem ggX4_pay_X4_does : GoodIn wsX4_pay wsX4_does := goodIn_r _ [88, 89, 90, 91, 3, 92, 93, 94, 16, 12, 13, 14, 15, 17, 18, 19, 20, 21, 22, 23, 24, 25, 26, 27, 28, 29, 30, 31, 32, 33, 34, 35, 36, 37, 38, 39, 40, 41, 42, 43, 44, 5, 6, 7, 45, 46, 47, 48, 49, 50, 51, 52, 53, 54, 55, 56, 57, 58, 59, 60, 61, 62, 63, 64, 65, 66, 67, 68, 69, 70, 71, 72, 73, 74, 75, 76, 77, 78, 79, 95, 96, 97, 98, 99, 100, 101, 102] (by decide +kernel) (by decide +kernel)
set_option maxRecDepth 20000 in
theorem gX4_pay_X4_does : GoodIn wsX4_pay (wsV RX4 106 RX4 yX4_does wsX4_does) := goodIn_app (goodIn_of _ (by decide +kernel)) ggX4_pay_X4_does
theorem dX4_pay_0 : decode cX4_pay 0 = .ok (.aload_n 0, 1) := by decide +kernel
theorem dX4_pay_1 : decode cX4_pay 1 = .ok (.iload_n 1, 1) := by decide +kernel
theorem dX4_pay_2 : decode cX4_pay 2 = .ok (.invokestatic 84, 3) := by decide +kernel
theorem dX4_pay_5 : decode cX4_pay 5 = .ok (.ifCond .ne 7, 3) := by decide +kernel
theorem dX4_pay_8 : decode cX4_pay 8 = .ok (.iconst 1, 1) := by decide +kernel
theorem dX4_pay_9 : decode cX4_pay 9 = .ok (.goto 19, 3) := by decide +kernel
theorem dX4_pay_12 : decode cX4_pay 12 = .ok (.aload_n 0, 1) := by decide +kernel
theorem dX4_pay_13 : decode cX4_pay 13 = .ok (.iconst 1, 1) := by decide +kernel
theorem dX4_pay_14 : decode cX4_pay 14 = .ok (.iload_n 1, 1) := by decide +kernel
theorem dX4_pay_15 : decode cX4_pay 15 = .ok (.iconst 0, 1) := by decide +kernel
theorem dX4_pay_16 : decode cX4_pay 16 = .ok (.invokevirtual 103, 3) := by decide +kernel
theorem dX4_pay_19 : decode cX4_pay 19 = .ok (.iconst (-1), 1) := by decide +kernel
theorem dX4_pay_20 : decode cX4_pay 20 = .ok (.if_icmp .ne 7, 3) := by decide +kernel
theorem dX4_pay_23 : decode cX4_pay 23 = .ok (.iconst 2, 1) := by decide +kernel
theorem dX4_pay_24 : decode cX4_pay 24 = .ok (.goto 4, 3) := by decide +kernel
theorem dX4_pay_27 : decode cX4_pay 27 = .ok (.iconst 0, 1) := by decide +kernel
theorem dX4_pay_28 : decode cX4_pay 28 = .ok (.invokevirtual 87, 3) := by decide +kernel
theorem dX4_pay_31 : decode cX4_pay 31 = .ok (.ifCond .eq 13, 3) := by decide +kernel
theorem dX4_pay_34 : decode cX4_pay 34 = .ok (.aload_n 0, 1) := by decide +kernel
theorem dX4_pay_35 : decode cX4_pay 35 = .ok (.iconst 1, 1) := by decide +kernel
theorem dX4_pay_36 : decode cX4_pay 36 = .ok (.iload_n 1, 1) := by decide +kernel
theorem dX4_pay_37 : decode cX4_pay 37 = .ok (.iconst 0, 1) := by decide +kernel
theorem dX4_pay_38 : decode cX4_pay 38 = .ok (.invokevirtual 106, 3) := by decide +kernel
theorem dX4_pay_41 : decode cX4_pay 41 = .ok (.goto 4, 3) := by decide +kernel
theorem dX4_pay_44 : decode cX4_pay 44 = .ok (.iconst 0, 1) := by decide +kernel
theorem dX4_pay_45 : decode cX4_pay 45 = .ok (.ireturn, 1) := by decide +kernel
set_option maxRecDepth 20000 in
theorem ggX4_tidy_X4_save : GoodIn wsX4_tidy wsX4_save := goodIn_r _ [6, 7, 8, 9, 80, 81, 82, 83, 84, 85, 86, 87] (by decide +kernel) (by decide +kernel)
set_option maxRecDepth 20000 in
theorem gX4_tidy_X4_save : GoodIn wsX4_tidy (wsV RX4 90 RX4 yX4_save wsX4_save) := goodIn_app (goodIn_of _ (by decide +kernel)) ggX4_tidy_X4_save
set_option maxRecDepth 20000 in
theorem ggX4_tidy_X4_allMoves : GoodIn wsX4_tidy wsX4_allMoves := goodIn_r _ [13, 9, 14, 15, 5, 16, 80, 81, 82, 83, 84, 85, 86, 87] (by decide +kernel) (by decide +kernel)
set_option maxRecDepth 20000 in
theorem gX4_tidy_X4_allMoves : GoodIn wsX4_tidy (wsV RX4 96 RX4 yX4_allMoves wsX4_allMoves) := goodIn_app (goodIn_of _ (by decide +kernel)) ggX4_tidy_X4_allMoves
set_option maxRecDepth 20000 in
theorem ggX4_tidy_X4_tries : GoodIn wsX4_tidy wsX4_tries := goodIn_r _ [20, 21, 22, 23, 5, 24, 25, 9, 26, 27, 28, 29, 30, 31, 32, 33, 14, 15, 16, 34, 35, 36, 37, 38, 39, 40, 41, 42, 43, 44, 45, 46, 47, 48, 49, 50, 51, 52, 53, 54, 55, 56, 57, 58, 59, 60, 61, 62, 63, 64, 65, 66, 67, 68, 69, 70, 71, 72, 73, 74, 75, 76, 77, 78, 79, 80, 81, 82, 83, 84, 85, 86, 87] (by decide +kernel) (by decide +kernel)
set_option maxRecDepth 20000 in
theorem gX4_tidy_X4_tries : GoodIn wsX4_tidy (wsV RX4 100 RX4 yX4_tries wsX4_tries) := goodIn_app (goodIn_of _ (by decide +kernel)) ggX4_tidy_X4_tries
theorem dX4_tidy_0 : decode cX4_tidy 0 = .ok (.aload_n 0, 1) := by decide +kernel
theorem dX4_tidy_1 : decode cX4_tidy 1 = .ok (.iconst 0, 1) := by decide +kernel
theorem dX4_tidy_2 : decode cX4_tidy 2 = .ok (.putfield 22, 3) := by decide +kernel
theorem dX4_tidy_5 : decode cX4_tidy 5 = .ok (.aload_n 0, 1) := by decide +kernel
theorem dX4_tidy_6 : decode cX4_tidy 6 = .ok (.invokevirtual 90, 3) := by decide +kernel
theorem dX4_tidy_9 : decode cX4_tidy 9 = .ok (.aload_n 0, 1) := by decide +kernel
theorem dX4_tidy_10 : decode cX4_tidy 10 = .ok (.invokevirtual 96, 3) := by decide +kernel
theorem dX4_tidy_13 : decode cX4_tidy 13 = .ok (.istore_n 1, 1) := by decide +kernel
theorem dX4_tidy_14 : decode cX4_tidy 14 = .ok (.iconst 0, 1) := by decide +kernel
theorem dX4_tidy_15 : decode cX4_tidy 15 = .ok (.istore_n 2, 1) := by decide +kernel
theorem dX4_tidy_16 : decode cX4_tidy 16 = .ok (.iload_n 2, 1) := by decide +kernel
theorem dX4_tidy_17 : decode cX4_tidy 17 = .ok (.bipush 9, 2) := by decide +kernel
theorem dX4_tidy_19 : decode cX4_tidy 19 = .ok (.if_icmp .ge 26, 3) := by decide +kernel
theorem dX4_tidy_22 : decode cX4_tidy 22 = .ok (.aload_n 0, 1) := by decide +kernel
theorem dX4_tidy_23 : decode cX4_tidy 23 = .ok (.iconst 1, 1) := by decide +kernel
theorem dX4_tidy_24 : decode cX4_tidy 24 = .ok (.iload_n 2, 1) := by decide +kernel
theorem dX4_tidy_25 : decode cX4_tidy 25 = .ok (.iconst 0, 1) := by decide +kernel
theorem dX4_tidy_26 : decode cX4_tidy 26 = .ok (.invokevirtual 100, 3) := by decide +kernel
theorem dX4_tidy_29 : decode cX4_tidy 29 = .ok (.istore_n 3, 1) := by decide +kernel
theorem dX4_tidy_30 : decode cX4_tidy 30 = .ok (.aload_n 0, 1) := by decide +kernel
theorem dX4_tidy_31 : decode cX4_tidy 31 = .ok (.iconst 2, 1) := by decide +kernel
theorem dX4_tidy_32 : decode cX4_tidy 32 = .ok (.iload_n 2, 1) := by decide +kernel
theorem dX4_tidy_33 : decode cX4_tidy 33 = .ok (.iconst 0, 1) := by decide +kernel
theorem dX4_tidy_34 : decode cX4_tidy 34 = .ok (.invokevirtual 100, 3) := by decide +kernel
theorem dX4_tidy_37 : decode cX4_tidy 37 = .ok (.istore 4, 2) := by decide +kernel
theorem dX4_tidy_39 : decode cX4_tidy 39 = .ok (.iinc 2 1, 3) := by decide +kernel
theorem dX4_tidy_42 : decode cX4_tidy 42 = .ok (.goto (-26), 3) := by decide +kernel
theorem dX4_tidy_45 : decode cX4_tidy 45 = .ok (.aload_n 0, 1) := by decide +kernel
theorem dX4_tidy_46 : decode cX4_tidy 46 = .ok (.invokevirtual 96, 3) := by decide +kernel
theorem dX4_tidy_49 : decode cX4_tidy 49 = .ok (.iload_n 1, 1) := by decide +kernel
theorem dX4_tidy_50 : decode cX4_tidy 50 = .ok (.isub, 1) := by decide +kernel
theorem dX4_tidy_51 : decode cX4_tidy 51 = .ok (.ireturn, 1) := by decide +kernel
set_option maxRecDepth 20000 in
theorem ggX4_append_X4_in : GoodIn wsX4_append wsX4_in := goodIn_r _ [6] (by decide +kernel) (by decide +kernel)
set_option maxRecDepth 20000 in
theorem gX4_append_X4_in : GoodIn wsX4_append (va_wsS RX4 26 yX4_in wsX4_in) := goodIn_app (goodIn_of _ (by decide +kernel)) ggX4_append_X4_in
set_option maxRecDepth 20000 in
theorem ggX4_append_X4_holds : GoodIn wsX4_append wsX4_holds := goodIn_r _ [10, 11, 12, 13, 14, 15, 16, 17, 18, 19] (by decide +kernel) (by decide +kernel)
set_option maxRecDepth 20000 in
theorem gX4_append_X4_holds : GoodIn wsX4_append (wsV RX4 87 RX4 yX4_holds wsX4_holds) := goodIn_app (goodIn_of _ (by decide +kernel)) ggX4_append_X4_holds
theorem dX4_append_0 : decode cX4_append 0 = .ok (.aload_n 0, 1) := by decide +kernel
theorem dX4_append_1 : decode cX4_append 1 = .ok (.iload_n 1, 1) := by decide +kernel
theorem dX4_append_2 : decode cX4_append 2 = .ok (.bipush 33, 2) := by decide +kernel
theorem dX4_append_4 : decode cX4_append 4 = .ok (.bipush 126, 2) := by decide +kernel
theorem dX4_append_6 : decode cX4_append 6 = .ok (.invokestatic 26, 3) := by decide +kernel
theorem dX4_append_9 : decode cX4_append 9 = .ok (.ifCond .ne 7, 3) := by decide +kernel
theorem dX4_append_12 : decode cX4_append 12 = .ok (.iconst 1, 1) := by decide +kernel
theorem dX4_append_13 : decode cX4_append 13 = .ok (.goto 17, 3) := by decide +kernel
theorem dX4_append_16 : decode cX4_append 16 = .ok (.aload_n 0, 1) := by decide +kernel
theorem dX4_append_17 : decode cX4_append 17 = .ok (.getfield 109, 3) := by decide +kernel
theorem dX4_append_20 : decode cX4_append 20 = .ok (.bipush 60, 2) := by decide +kernel
theorem dX4_append_22 : decode cX4_append 22 = .ok (.if_icmp .ne 7, 3) := by decide +kernel
theorem dX4_append_25 : decode cX4_append 25 = .ok (.iconst 2, 1) := by decide +kernel
theorem dX4_append_26 : decode cX4_append 26 = .ok (.goto 4, 3) := by decide +kernel
theorem dX4_append_29 : decode cX4_append 29 = .ok (.iconst 0, 1) := by decide +kernel
theorem dX4_append_30 : decode cX4_append 30 = .ok (.invokevirtual 87, 3) := by decide +kernel
theorem dX4_append_33 : decode cX4_append 33 = .ok (.ifCond .ne 5, 3) := by decide +kernel
theorem dX4_append_36 : decode cX4_append 36 = .ok (.iconst 0, 1) := by decide +kernel
theorem dX4_append_37 : decode cX4_append 37 = .ok (.ireturn, 1) := by decide +kernel
theorem dX4_append_38 : decode cX4_append 38 = .ok (.aload_n 0, 1) := by decide +kernel
theorem dX4_append_39 : decode cX4_append 39 = .ok (.getfield 19, 3) := by decide +kernel
theorem dX4_append_42 : decode cX4_append 42 = .ok (.aload_n 0, 1) := by decide +kernel
theorem dX4_append_43 : decode cX4_append 43 = .ok (.getfield 109, 3) := by decide +kernel
theorem dX4_append_46 : decode cX4_append 46 = .ok (.iload_n 1, 1) := by decide +kernel
theorem dX4_append_47 : decode cX4_append 47 = .ok (.iastore, 1) := by decide +kernel
theorem dX4_append_48 : decode cX4_append 48 = .ok (.aload_n 0, 1) := by decide +kernel
theorem dX4_append_49 : decode cX4_append 49 = .ok (.dup, 1) := by decide +kernel
theorem dX4_append_50 : decode cX4_append 50 = .ok (.getfield 109, 3) := by decide +kernel
theorem dX4_append_53 : decode cX4_append 53 = .ok (.iconst 1, 1) := by decide +kernel
theorem dX4_append_54 : decode cX4_append 54 = .ok (.iadd, 1) := by decide +kernel
theorem dX4_append_55 : decode cX4_append 55 = .ok (.putfield 109, 3) := by decide +kernel
theorem dX4_append_58 : decode cX4_append 58 = .ok (.aload_n 0, 1) := by decide +kernel
theorem dX4_append_59 : decode cX4_append 59 = .ok (.getfield 109, 3) := by decide +kernel
theorem dX4_append_62 : decode cX4_append 62 = .ok (.ireturn, 1) := by decide +kernel
theorem dX4_clearBuffer_0 : decode cX4_clearBuffer 0 = .ok (.aload_n 0, 1) := by decide +kernel
theorem dX4_clearBuffer_1 : decode cX4_clearBuffer 1 = .ok (.iconst 0, 1) := by decide +kernel
theorem dX4_clearBuffer_2 : decode cX4_clearBuffer 2 = .ok (.putfield 22, 3) := by decide +kernel
theorem dX4_clearBuffer_5 : decode cX4_clearBuffer 5 = .ok (.aload_n 0, 1) := by decide +kernel
theorem dX4_clearBuffer_6 : decode cX4_clearBuffer 6 = .ok (.getfield 109, 3) := by decide +kernel
end
section
theorem dX4_clearBuffer_9 : decode cX4_clearBuffer 9 = .ok (.istore_n 1, 1) := by decide +kernel
theorem dX4_clearBuffer_10 : decode cX4_clearBuffer 10 = .ok (.aload_n 0, 1) := by decide +kernel
theorem dX4_clearBuffer_11 : decode cX4_clearBuffer 11 = .ok (.iconst 0, 1) := by decide +kernel
theorem dX4_clearBuffer_12 : decode cX4_clearBuffer 12 = .ok (.putfield 109, 3) := by decide +kernel
theorem dX4_clearBuffer_15 : decode cX4_clearBuffer 15 = .ok (.iload_n 1, 1) := by decide +kernel
theorem dX4_clearBuffer_16 : decode cX4_clearBuffer 16 = .ok (.ireturn, 1) := by decide +kernel
set_option maxRecDepth 20000 in
theorem ggX4_wrong_X4_in : GoodIn wsX4_wrong wsX4_in := goodIn_r _ [6] (by decide +kernel) (by decide +kernel)
set_option maxRecDepth 20000 in
theorem gX4_wrong_X4_in : GoodIn wsX4_wrong (va_wsS RX4 26 yX4_in wsX4_in) := goodIn_app (goodIn_of _ (by decide +kernel)) ggX4_wrong_X4_in
theorem dX4_wrong_0 : decode cX4_wrong 0 = .ok (.iconst 0, 1) := by decide +kernel
theorem dX4_wrong_1 : decode cX4_wrong 1 = .ok (.istore_n 1, 1) := by decide +kernel
theorem dX4_wrong_2 : decode cX4_wrong 2 = .ok (.iconst 0, 1) := by decide +kernel
theorem dX4_wrong_3 : decode cX4_wrong 3 = .ok (.istore_n 2, 1) := by decide +kernel
theorem dX4_wrong_4 : decode cX4_wrong 4 = .ok (.iconst 0, 1) := by decide +kernel
theorem dX4_wrong_5 : decode cX4_wrong 5 = .ok (.istore_n 3, 1) := by decide +kernel
theorem dX4_wrong_6 : decode cX4_wrong 6 = .ok (.iload_n 3, 1) := by decide +kernel
theorem dX4_wrong_7 : decode cX4_wrong 7 = .ok (.aload_n 0, 1) := by decide +kernel
theorem dX4_wrong_8 : decode cX4_wrong 8 = .ok (.getfield 109, 3) := by decide +kernel
theorem dX4_wrong_11 : decode cX4_wrong 11 = .ok (.if_icmp .ge 138, 3) := by decide +kernel
theorem dX4_wrong_14 : decode cX4_wrong 14 = .ok (.aload_n 0, 1) := by decide +kernel
theorem dX4_wrong_15 : decode cX4_wrong 15 = .ok (.getfield 19, 3) := by decide +kernel
theorem dX4_wrong_18 : decode cX4_wrong 18 = .ok (.iload_n 3, 1) := by decide +kernel
theorem dX4_wrong_19 : decode cX4_wrong 19 = .ok (.iaload, 1) := by decide +kernel
theorem dX4_wrong_20 : decode cX4_wrong 20 = .ok (.istore 4, 2) := by decide +kernel
theorem dX4_wrong_22 : decode cX4_wrong 22 = .ok (.iload 4, 2) := by decide +kernel
theorem dX4_wrong_24 : decode cX4_wrong 24 = .ok (.bipush 43, 2) := by decide +kernel
theorem dX4_wrong_26 : decode cX4_wrong 26 = .ok (.if_icmp .eq 10, 3) := by decide +kernel
theorem dX4_wrong_29 : decode cX4_wrong 29 = .ok (.iload 4, 2) := by decide +kernel
theorem dX4_wrong_31 : decode cX4_wrong 31 = .ok (.bipush 45, 2) := by decide +kernel
theorem dX4_wrong_33 : decode cX4_wrong 33 = .ok (.if_icmp .ne 7, 3) := by decide +kernel
theorem dX4_wrong_36 : decode cX4_wrong 36 = .ok (.iconst 1, 1) := by decide +kernel
theorem dX4_wrong_37 : decode cX4_wrong 37 = .ok (.goto 4, 3) := by decide +kernel
theorem dX4_wrong_40 : decode cX4_wrong 40 = .ok (.iconst 0, 1) := by decide +kernel
theorem dX4_wrong_41 : decode cX4_wrong 41 = .ok (.istore 5, 2) := by decide +kernel
theorem dX4_wrong_43 : decode cX4_wrong 43 = .ok (.iload 5, 2) := by decide +kernel
theorem dX4_wrong_45 : decode cX4_wrong 45 = .ok (.ifCond .eq 19, 3) := by decide +kernel
theorem dX4_wrong_48 : decode cX4_wrong 48 = .ok (.iload_n 3, 1) := by decide +kernel
theorem dX4_wrong_49 : decode cX4_wrong 49 = .ok (.ifCond .eq 7, 3) := by decide +kernel
theorem dX4_wrong_52 : decode cX4_wrong 52 = .ok (.iload_n 1, 1) := by decide +kernel
theorem dX4_wrong_53 : decode cX4_wrong 53 = .ok (.ifCond .le 7, 3) := by decide +kernel
theorem dX4_wrong_56 : decode cX4_wrong 56 = .ok (.iconst 1, 1) := by decide +kernel
theorem dX4_wrong_57 : decode cX4_wrong 57 = .ok (.goto 38, 3) := by decide +kernel
theorem dX4_wrong_60 : decode cX4_wrong 60 = .ok (.iconst 0, 1) := by decide +kernel
theorem dX4_wrong_61 : decode cX4_wrong 61 = .ok (.goto 34, 3) := by decide +kernel
theorem dX4_wrong_64 : decode cX4_wrong 64 = .ok (.iload 4, 2) := by decide +kernel
theorem dX4_wrong_66 : decode cX4_wrong 66 = .ok (.bipush 48, 2) := by decide +kernel
theorem dX4_wrong_68 : decode cX4_wrong 68 = .ok (.bipush 57, 2) := by decide +kernel
theorem dX4_wrong_70 : decode cX4_wrong 70 = .ok (.invokestatic 26, 3) := by decide +kernel
theorem dX4_wrong_73 : decode cX4_wrong 73 = .ok (.ifCond .eq 21, 3) := by decide +kernel
theorem dX4_wrong_76 : decode cX4_wrong 76 = .ok (.iload_n 3, 1) := by decide +kernel
theorem dX4_wrong_77 : decode cX4_wrong 77 = .ok (.ifCond .le 17, 3) := by decide +kernel
theorem dX4_wrong_80 : decode cX4_wrong 80 = .ok (.iload_n 1, 1) := by decide +kernel
theorem dX4_wrong_81 : decode cX4_wrong 81 = .ok (.bipush 6, 2) := by decide +kernel
theorem dX4_wrong_83 : decode cX4_wrong 83 = .ok (.if_icmp .ge 11, 3) := by decide +kernel
theorem dX4_wrong_86 : decode cX4_wrong 86 = .ok (.iload_n 2, 1) := by decide +kernel
theorem dX4_wrong_87 : decode cX4_wrong 87 = .ok (.ifCond .ne 7, 3) := by decide +kernel
theorem dX4_wrong_90 : decode cX4_wrong 90 = .ok (.iconst 1, 1) := by decide +kernel
theorem dX4_wrong_91 : decode cX4_wrong 91 = .ok (.goto 4, 3) := by decide +kernel
theorem dX4_wrong_94 : decode cX4_wrong 94 = .ok (.iconst 0, 1) := by decide +kernel
theorem dX4_wrong_95 : decode cX4_wrong 95 = .ok (.istore 6, 2) := by decide +kernel
theorem dX4_wrong_97 : decode cX4_wrong 97 = .ok (.iload 6, 2) := by decide +kernel
theorem dX4_wrong_99 : decode cX4_wrong 99 = .ok (.ifCond .ne 5, 3) := by decide +kernel
theorem dX4_wrong_102 : decode cX4_wrong 102 = .ok (.iload_n 3, 1) := by decide +kernel
theorem dX4_wrong_103 : decode cX4_wrong 103 = .ok (.ireturn, 1) := by decide +kernel
theorem dX4_wrong_104 : decode cX4_wrong 104 = .ok (.iload 5, 2) := by decide +kernel
theorem dX4_wrong_106 : decode cX4_wrong 106 = .ok (.ifCond .ne 22, 3) := by decide +kernel
theorem dX4_wrong_109 : decode cX4_wrong 109 = .ok (.iload_n 2, 1) := by decide +kernel
theorem dX4_wrong_110 : decode cX4_wrong 110 = .ok (.ifCond .ne 14, 3) := by decide +kernel
theorem dX4_wrong_113 : decode cX4_wrong 113 = .ok (.iload_n 1, 1) := by decide +kernel
theorem dX4_wrong_114 : decode cX4_wrong 114 = .ok (.ifCond .ne 14, 3) := by decide +kernel
theorem dX4_wrong_117 : decode cX4_wrong 117 = .ok (.iload 4, 2) := by decide +kernel
theorem dX4_wrong_119 : decode cX4_wrong 119 = .ok (.bipush 48, 2) := by decide +kernel
theorem dX4_wrong_121 : decode cX4_wrong 121 = .ok (.if_icmp .ne 7, 3) := by decide +kernel
theorem dX4_wrong_124 : decode cX4_wrong 124 = .ok (.iconst 1, 1) := by decide +kernel
theorem dX4_wrong_125 : decode cX4_wrong 125 = .ok (.goto 4, 3) := by decide +kernel
theorem dX4_wrong_128 : decode cX4_wrong 128 = .ok (.iconst 0, 1) := by decide +kernel
theorem dX4_wrong_129 : decode cX4_wrong 129 = .ok (.istore_n 2, 1) := by decide +kernel
theorem dX4_wrong_130 : decode cX4_wrong 130 = .ok (.iload 5, 2) := by decide +kernel
theorem dX4_wrong_132 : decode cX4_wrong 132 = .ok (.ifCond .eq 7, 3) := by decide +kernel
theorem dX4_wrong_135 : decode cX4_wrong 135 = .ok (.iconst 0, 1) := by decide +kernel
theorem dX4_wrong_136 : decode cX4_wrong 136 = .ok (.goto 6, 3) := by decide +kernel
theorem dX4_wrong_139 : decode cX4_wrong 139 = .ok (.iload_n 1, 1) := by decide +kernel
theorem dX4_wrong_140 : decode cX4_wrong 140 = .ok (.iconst 1, 1) := by decide +kernel
theorem dX4_wrong_141 : decode cX4_wrong 141 = .ok (.iadd, 1) := by decide +kernel
theorem dX4_wrong_142 : decode cX4_wrong 142 = .ok (.istore_n 1, 1) := by decide +kernel
theorem dX4_wrong_143 : decode cX4_wrong 143 = .ok (.iinc 3 1, 3) := by decide +kernel
theorem dX4_wrong_146 : decode cX4_wrong 146 = .ok (.goto (-140), 3) := by decide +kernel
theorem dX4_wrong_149 : decode cX4_wrong 149 = .ok (.aload_n 0, 1) := by decide +kernel
theorem dX4_wrong_150 : decode cX4_wrong 150 = .ok (.getfield 109, 3) := by decide +kernel
theorem dX4_wrong_153 : decode cX4_wrong 153 = .ok (.ireturn, 1) := by decide +kernel
set_option maxRecDepth 20000 in
theorem ggX4_firstError_X4_wrong : GoodIn wsX4_firstError wsX4_wrong := goodIn_r _ [6, 7, 8, 9, 10, 5, 11, 12, 13, 14, 15, 16, 17, 18, 19] (by decide +kernel) (by decide +kernel)
set_option maxRecDepth 20000 in
theorem gX4_firstError_X4_wrong : GoodIn wsX4_firstError (wsV RX4 112 RX4 yX4_wrong wsX4_wrong) := goodIn_app (goodIn_of _ (by decide +kernel)) ggX4_firstError_X4_wrong
theorem dX4_firstError_0 : decode cX4_firstError 0 = .ok (.aload_n 0, 1) := by decide +kernel
theorem dX4_firstError_1 : decode cX4_firstError 1 = .ok (.iconst 0, 1) := by decide +kernel
theorem dX4_firstError_2 : decode cX4_firstError 2 = .ok (.putfield 22, 3) := by decide +kernel
theorem dX4_firstError_5 : decode cX4_firstError 5 = .ok (.aload_n 0, 1) := by decide +kernel
theorem dX4_firstError_6 : decode cX4_firstError 6 = .ok (.invokevirtual 112, 3) := by decide +kernel
theorem dX4_firstError_9 : decode cX4_firstError 9 = .ok (.ireturn, 1) := by decide +kernel
set_option maxRecDepth 20000 in
theorem ggX4_term_X4_tries : GoodIn wsX4_term wsX4_tries := goodIn_r _ [6, 7, 8, 9, 5, 10, 11, 12, 13, 14, 15, 16, 17, 18, 19, 20, 21, 22, 23, 24, 25, 26, 27, 28, 29, 30, 31, 32, 33, 34, 35, 36, 37, 38, 39, 40, 41, 42, 43, 44, 45, 46, 47, 48, 49, 50, 51, 52, 53, 54, 55, 56, 57, 58, 59, 60, 61, 62, 63, 64, 65, 66, 67, 68, 69, 70, 71, 72, 73, 74, 75, 76, 77] (by decide +kernel) (by decide +kernel)
set_option maxRecDepth 20000 in
theorem gX4_term_X4_tries : GoodIn wsX4_term (wsV RX4 100 RX4 yX4_tries wsX4_tries) := goodIn_app (goodIn_of _ (by decide +kernel)) ggX4_term_X4_tries
theorem dX4_term_0 : decode cX4_term 0 = .ok (.iconst 0, 1) := by decide +kernel
theorem dX4_term_1 : decode cX4_term 1 = .ok (.istore_n 3, 1) := by decide +kernel
theorem dX4_term_2 : decode cX4_term 2 = .ok (.iload_n 2, 1) := by decide +kernel
theorem dX4_term_3 : decode cX4_term 3 = .ok (.iconst 1, 1) := by decide +kernel
theorem dX4_term_4 : decode cX4_term 4 = .ok (.isub, 1) := by decide +kernel
theorem dX4_term_5 : decode cX4_term 5 = .ok (.istore 4, 2) := by decide +kernel
theorem dX4_term_7 : decode cX4_term 7 = .ok (.iload 4, 2) := by decide +kernel
theorem dX4_term_9 : decode cX4_term 9 = .ok (.iload_n 1, 1) := by decide +kernel
theorem dX4_term_10 : decode cX4_term 10 = .ok (.if_icmp .le 56, 3) := by decide +kernel
theorem dX4_term_13 : decode cX4_term 13 = .ok (.aload_n 0, 1) := by decide +kernel
theorem dX4_term_14 : decode cX4_term 14 = .ok (.getfield 19, 3) := by decide +kernel
theorem dX4_term_17 : decode cX4_term 17 = .ok (.iload 4, 2) := by decide +kernel
theorem dX4_term_19 : decode cX4_term 19 = .ok (.iaload, 1) := by decide +kernel
theorem dX4_term_20 : decode cX4_term 20 = .ok (.bipush 48, 2) := by decide +kernel
theorem dX4_term_22 : decode cX4_term 22 = .ok (.isub, 1) := by decide +kernel
theorem dX4_term_23 : decode cX4_term 23 = .ok (.istore 5, 2) := by decide +kernel
theorem dX4_term_25 : decode cX4_term 25 = .ok (.aload_n 0, 1) := by decide +kernel
theorem dX4_term_26 : decode cX4_term 26 = .ok (.iconst 0, 1) := by decide +kernel
theorem dX4_term_27 : decode cX4_term 27 = .ok (.iload_n 3, 1) := by decide +kernel
theorem dX4_term_28 : decode cX4_term 28 = .ok (.aload_n 0, 1) := by decide +kernel
theorem dX4_term_29 : decode cX4_term 29 = .ok (.getfield 19, 3) := by decide +kernel
theorem dX4_term_32 : decode cX4_term 32 = .ok (.iload_n 1, 1) := by decide +kernel
theorem dX4_term_33 : decode cX4_term 33 = .ok (.iaload, 1) := by decide +kernel
theorem dX4_term_34 : decode cX4_term 34 = .ok (.bipush 43, 2) := by decide +kernel
theorem dX4_term_36 : decode cX4_term 36 = .ok (.if_icmp .ne 8, 3) := by decide +kernel
theorem dX4_term_39 : decode cX4_term 39 = .ok (.iload 5, 2) := by decide +kernel
theorem dX4_term_41 : decode cX4_term 41 = .ok (.goto 6, 3) := by decide +kernel
theorem dX4_term_44 : decode cX4_term 44 = .ok (.iload 5, 2) := by decide +kernel
theorem dX4_term_46 : decode cX4_term 46 = .ok (.ineg, 1) := by decide +kernel
theorem dX4_term_47 : decode cX4_term 47 = .ok (.invokevirtual 100, 3) := by decide +kernel
theorem dX4_term_50 : decode cX4_term 50 = .ok (.ifCond .ne 7, 3) := by decide +kernel
theorem dX4_term_53 : decode cX4_term 53 = .ok (.iconst (-1), 1) := by decide +kernel
theorem dX4_term_54 : decode cX4_term 54 = .ok (.iload_n 3, 1) := by decide +kernel
theorem dX4_term_55 : decode cX4_term 55 = .ok (.isub, 1) := by decide +kernel
theorem dX4_term_56 : decode cX4_term 56 = .ok (.ireturn, 1) := by decide +kernel
theorem dX4_term_57 : decode cX4_term 57 = .ok (.iinc 3 1, 3) := by decide +kernel
theorem dX4_term_60 : decode cX4_term 60 = .ok (.iinc 4 (-1), 3) := by decide +kernel
theorem dX4_term_63 : decode cX4_term 63 = .ok (.goto (-56), 3) := by decide +kernel
theorem dX4_term_66 : decode cX4_term 66 = .ok (.iload_n 3, 1) := by decide +kernel
theorem dX4_term_67 : decode cX4_term 67 = .ok (.ireturn, 1) := by decide +kernel
set_option maxRecDepth 20000 in
theorem ggX4_reckons_X4_in : GoodIn wsX4_reckons wsX4_in := goodIn_r _ [6] (by decide +kernel) (by decide +kernel)
set_option maxRecDepth 20000 in
theorem gX4_reckons_X4_in : GoodIn wsX4_reckons (va_wsS RX4 26 yX4_in wsX4_in) := goodIn_app (goodIn_of _ (by decide +kernel)) ggX4_reckons_X4_in
set_option maxRecDepth 20000 in
theorem ggX4_reckons_X4_term : GoodIn wsX4_reckons wsX4_term := goodIn_r _ [10, 2, 11, 12, 13, 5, 14, 15, 16, 17, 18, 19, 20, 21, 22, 23, 24, 25, 26, 27, 28, 29, 30, 31, 32, 33, 34, 35, 36, 37, 38, 39, 3, 4, 6, 40, 41, 42, 43, 44, 45, 46, 47, 48, 49, 50, 51, 52, 53, 54, 55, 56, 57, 58, 59, 60, 61, 62, 63, 64, 65, 66, 67, 68, 69, 70, 71, 72, 73, 74, 75, 76, 77, 78, 79, 80, 81, 82] (by decide +kernel) (by decide +kernel)
set_option maxRecDepth 20000 in
theorem gX4_reckons_X4_term : GoodIn wsX4_reckons (wsV RX4 115 RX4 yX4_term wsX4_term) := goodIn_app (goodIn_of _ (by decide +kernel)) ggX4_reckons_X4_term
theorem dX4_reckons_0 : decode cX4_reckons 0 = .ok (.iconst 0, 1) := by decide +kernel
theorem dX4_reckons_1 : decode cX4_reckons 1 = .ok (.istore_n 1, 1) := by decide +kernel
theorem dX4_reckons_2 : decode cX4_reckons 2 = .ok (.iconst 0, 1) := by decide +kernel
theorem dX4_reckons_3 : decode cX4_reckons 3 = .ok (.istore_n 2, 1) := by decide +kernel
theorem dX4_reckons_4 : decode cX4_reckons 4 = .ok (.iload_n 2, 1) := by decide +kernel
theorem dX4_reckons_5 : decode cX4_reckons 5 = .ok (.aload_n 0, 1) := by decide +kernel
theorem dX4_reckons_6 : decode cX4_reckons 6 = .ok (.getfield 109, 3) := by decide +kernel
theorem dX4_reckons_9 : decode cX4_reckons 9 = .ok (.if_icmp .ge 79, 3) := by decide +kernel
theorem dX4_reckons_12 : decode cX4_reckons 12 = .ok (.iload_n 2, 1) := by decide +kernel
theorem dX4_reckons_13 : decode cX4_reckons 13 = .ok (.iconst 1, 1) := by decide +kernel
theorem dX4_reckons_14 : decode cX4_reckons 14 = .ok (.iadd, 1) := by decide +kernel
theorem dX4_reckons_15 : decode cX4_reckons 15 = .ok (.istore_n 3, 1) := by decide +kernel
theorem dX4_reckons_16 : decode cX4_reckons 16 = .ok (.iload_n 3, 1) := by decide +kernel
theorem dX4_reckons_17 : decode cX4_reckons 17 = .ok (.aload_n 0, 1) := by decide +kernel
theorem dX4_reckons_18 : decode cX4_reckons 18 = .ok (.getfield 109, 3) := by decide +kernel
theorem dX4_reckons_21 : decode cX4_reckons 21 = .ok (.if_icmp .ge 25, 3) := by decide +kernel
theorem dX4_reckons_24 : decode cX4_reckons 24 = .ok (.aload_n 0, 1) := by decide +kernel
theorem dX4_reckons_25 : decode cX4_reckons 25 = .ok (.getfield 19, 3) := by decide +kernel
theorem dX4_reckons_28 : decode cX4_reckons 28 = .ok (.iload_n 3, 1) := by decide +kernel
theorem dX4_reckons_29 : decode cX4_reckons 29 = .ok (.iaload, 1) := by decide +kernel
theorem dX4_reckons_30 : decode cX4_reckons 30 = .ok (.bipush 48, 2) := by decide +kernel
theorem dX4_reckons_32 : decode cX4_reckons 32 = .ok (.bipush 57, 2) := by decide +kernel
theorem dX4_reckons_34 : decode cX4_reckons 34 = .ok (.invokestatic 26, 3) := by decide +kernel
theorem dX4_reckons_37 : decode cX4_reckons 37 = .ok (.ifCond .eq 9, 3) := by decide +kernel
theorem dX4_reckons_40 : decode cX4_reckons 40 = .ok (.iinc 3 1, 3) := by decide +kernel
theorem dX4_reckons_43 : decode cX4_reckons 43 = .ok (.goto (-27), 3) := by decide +kernel
theorem dX4_reckons_46 : decode cX4_reckons 46 = .ok (.aload_n 0, 1) := by decide +kernel
theorem dX4_reckons_47 : decode cX4_reckons 47 = .ok (.iload_n 2, 1) := by decide +kernel
theorem dX4_reckons_48 : decode cX4_reckons 48 = .ok (.iload_n 3, 1) := by decide +kernel
theorem dX4_reckons_49 : decode cX4_reckons 49 = .ok (.invokevirtual 115, 3) := by decide +kernel
theorem dX4_reckons_52 : decode cX4_reckons 52 = .ok (.istore 4, 2) := by decide +kernel
theorem dX4_reckons_54 : decode cX4_reckons 54 = .ok (.iload_n 1, 1) := by decide +kernel
theorem dX4_reckons_55 : decode cX4_reckons 55 = .ok (.iload 4, 2) := by decide +kernel
theorem dX4_reckons_57 : decode cX4_reckons 57 = .ok (.ifCond .ge 10, 3) := by decide +kernel
theorem dX4_reckons_60 : decode cX4_reckons 60 = .ok (.iconst (-1), 1) := by decide +kernel
theorem dX4_reckons_61 : decode cX4_reckons 61 = .ok (.iload 4, 2) := by decide +kernel
theorem dX4_reckons_63 : decode cX4_reckons 63 = .ok (.isub, 1) := by decide +kernel
theorem dX4_reckons_64 : decode cX4_reckons 64 = .ok (.goto 5, 3) := by decide +kernel
theorem dX4_reckons_67 : decode cX4_reckons 67 = .ok (.iload 4, 2) := by decide +kernel
theorem dX4_reckons_69 : decode cX4_reckons 69 = .ok (.iadd, 1) := by decide +kernel
theorem dX4_reckons_70 : decode cX4_reckons 70 = .ok (.istore_n 1, 1) := by decide +kernel
theorem dX4_reckons_71 : decode cX4_reckons 71 = .ok (.iload 4, 2) := by decide +kernel
theorem dX4_reckons_73 : decode cX4_reckons 73 = .ok (.ifCond .ge 10, 3) := by decide +kernel
theorem dX4_reckons_76 : decode cX4_reckons 76 = .ok (.aload_n 0, 1) := by decide +kernel
theorem dX4_reckons_77 : decode cX4_reckons 77 = .ok (.getfield 109, 3) := by decide +kernel
theorem dX4_reckons_80 : decode cX4_reckons 80 = .ok (.goto 4, 3) := by decide +kernel
theorem dX4_reckons_83 : decode cX4_reckons 83 = .ok (.iload_n 3, 1) := by decide +kernel
theorem dX4_reckons_84 : decode cX4_reckons 84 = .ok (.istore_n 2, 1) := by decide +kernel
theorem dX4_reckons_85 : decode cX4_reckons 85 = .ok (.goto (-81), 3) := by decide +kernel
theorem dX4_reckons_88 : decode cX4_reckons 88 = .ok (.iload_n 1, 1) := by decide +kernel
theorem dX4_reckons_89 : decode cX4_reckons 89 = .ok (.ireturn, 1) := by decide +kernel
set_option maxRecDepth 20000 in
theorem ggX4_reckon_X4_wrong : GoodIn wsX4_reckon wsX4_wrong := goodIn_r _ [7, 1, 2, 8, 9, 6, 10, 94, 95, 96, 97, 98, 99, 100, 101] (by decide +kernel) (by decide +kernel)
set_option maxRecDepth 20000 in
theorem gX4_reckon_X4_wrong : GoodIn wsX4_reckon (wsV RX4 112 RX4 yX4_wrong wsX4_wrong) := goodIn_app (goodIn_of _ (by decide +kernel)) ggX4_reckon_X4_wrong
set_option maxRecDepth 20000 in
theorem ggX4_reckon_X4_in : GoodIn wsX4_reckon wsX4_in := goodIn_r _ [10] (by decide +kernel) (by decide +kernel)
set_option maxRecDepth 20000 in
theorem gX4_reckon_X4_in : GoodIn wsX4_reckon (va_wsS RX4 26 yX4_in wsX4_in) := goodIn_app (goodIn_of _ (by decide +kernel)) ggX4_reckon_X4_in
set_option maxRecDepth 20000 in
theorem ggX4_reckon_X4_holds : GoodIn wsX4_reckon wsX4_holds := goodIn_r _ [14, 15, 94, 95, 96, 97, 98, 99, 100, 101] (by decide +kernel) (by decide +kernel)
set_option maxRecDepth 20000 in
theorem gX4_reckon_X4_holds : GoodIn wsX4_reckon (wsV RX4 87 RX4 yX4_holds wsX4_holds) := goodIn_app (goodIn_of _ (by decide +kernel)) ggX4_reckon_X4_holds
set_option maxRecDepth 20000 in
theorem ggX4_reckon_X4_save : GoodIn wsX4_reckon wsX4_save := goodIn_r _ [19, 20, 21, 22, 94, 95, 96, 97, 98, 99, 100, 101] (by decide +kernel) (by decide +kernel)
set_option maxRecDepth 20000 in
theorem gX4_reckon_X4_save : GoodIn wsX4_reckon (wsV RX4 90 RX4 yX4_save wsX4_save) := goodIn_app (goodIn_of _ (by decide +kernel)) ggX4_reckon_X4_save
set_option maxRecDepth 20000 in
theorem ggX4_reckon_X4_reckons : GoodIn wsX4_reckon wsX4_reckons := goodIn_r _ [26, 1, 2, 8, 9, 6, 10, 27, 28, 29, 30, 31, 32, 33, 34, 35, 36, 37, 38, 39, 22, 40, 41, 42, 43, 44, 45, 46, 47, 48, 49, 50, 51, 52, 53, 54, 55, 56, 57, 58, 59, 60, 61, 62, 63, 64, 65, 66, 67, 68, 69, 70, 71, 72, 73, 74, 75, 76, 77, 78, 79, 80, 81, 82, 83, 84, 85, 86, 87, 88, 89, 90, 91, 92, 93, 94, 95, 96, 97, 98, 99, 100, 101] (by decide +kernel) (by decide +kernel)
set_option maxRecDepth 20000 in
theorem gX4_reckon_X4_reckons : GoodIn wsX4_reckon (wsV RX4 118 RX4 yX4_reckons wsX4_reckons) := goodIn_app (goodIn_of _ (by decide +kernel)) ggX4_reckon_X4_reckons
theorem dX4_reckon_0 : decode cX4_reckon 0 = .ok (.aload_n 0, 1) := by decide +kernel
theorem dX4_reckon_1 : decode cX4_reckon 1 = .ok (.getfield 109, 3) := by decide +kernel
theorem dX4_reckon_4 : decode cX4_reckon 4 = .ok (.ifCond .le 39, 3) := by decide +kernel
theorem dX4_reckon_7 : decode cX4_reckon 7 = .ok (.aload_n 0, 1) := by decide +kernel
theorem dX4_reckon_8 : decode cX4_reckon 8 = .ok (.invokevirtual 112, 3) := by decide +kernel
theorem dX4_reckon_11 : decode cX4_reckon 11 = .ok (.aload_n 0, 1) := by decide +kernel
theorem dX4_reckon_12 : decode cX4_reckon 12 = .ok (.getfield 109, 3) := by decide +kernel
theorem dX4_reckon_15 : decode cX4_reckon 15 = .ok (.if_icmp .ne 28, 3) := by decide +kernel
theorem dX4_reckon_18 : decode cX4_reckon 18 = .ok (.aload_n 0, 1) := by decide +kernel
theorem dX4_reckon_19 : decode cX4_reckon 19 = .ok (.getfield 19, 3) := by decide +kernel
theorem dX4_reckon_22 : decode cX4_reckon 22 = .ok (.aload_n 0, 1) := by decide +kernel
theorem dX4_reckon_23 : decode cX4_reckon 23 = .ok (.getfield 109, 3) := by decide +kernel
theorem dX4_reckon_26 : decode cX4_reckon 26 = .ok (.iconst 1, 1) := by decide +kernel
theorem dX4_reckon_27 : decode cX4_reckon 27 = .ok (.isub, 1) := by decide +kernel
theorem dX4_reckon_28 : decode cX4_reckon 28 = .ok (.iaload, 1) := by decide +kernel
theorem dX4_reckon_29 : decode cX4_reckon 29 = .ok (.bipush 48, 2) := by decide +kernel
theorem dX4_reckon_31 : decode cX4_reckon 31 = .ok (.bipush 57, 2) := by decide +kernel
theorem dX4_reckon_33 : decode cX4_reckon 33 = .ok (.invokestatic 26, 3) := by decide +kernel
theorem dX4_reckon_36 : decode cX4_reckon 36 = .ok (.ifCond .eq 7, 3) := by decide +kernel
theorem dX4_reckon_39 : decode cX4_reckon 39 = .ok (.iconst 1, 1) := by decide +kernel
theorem dX4_reckon_40 : decode cX4_reckon 40 = .ok (.goto 4, 3) := by decide +kernel
theorem dX4_reckon_43 : decode cX4_reckon 43 = .ok (.iconst 0, 1) := by decide +kernel
theorem dX4_reckon_44 : decode cX4_reckon 44 = .ok (.istore_n 1, 1) := by decide +kernel
theorem dX4_reckon_45 : decode cX4_reckon 45 = .ok (.aload_n 0, 1) := by decide +kernel
theorem dX4_reckon_46 : decode cX4_reckon 46 = .ok (.iload_n 1, 1) := by decide +kernel
theorem dX4_reckon_47 : decode cX4_reckon 47 = .ok (.ifCond .eq 7, 3) := by decide +kernel
theorem dX4_reckon_50 : decode cX4_reckon 50 = .ok (.iconst 0, 1) := by decide +kernel
theorem dX4_reckon_51 : decode cX4_reckon 51 = .ok (.goto 4, 3) := by decide +kernel
theorem dX4_reckon_54 : decode cX4_reckon 54 = .ok (.iconst 1, 1) := by decide +kernel
theorem dX4_reckon_55 : decode cX4_reckon 55 = .ok (.invokevirtual 87, 3) := by decide +kernel
theorem dX4_reckon_58 : decode cX4_reckon 58 = .ok (.ifCond .ne 5, 3) := by decide +kernel
theorem dX4_reckon_61 : decode cX4_reckon 61 = .ok (.iconst 0, 1) := by decide +kernel
theorem dX4_reckon_62 : decode cX4_reckon 62 = .ok (.ireturn, 1) := by decide +kernel
theorem dX4_reckon_63 : decode cX4_reckon 63 = .ok (.aload_n 0, 1) := by decide +kernel
theorem dX4_reckon_64 : decode cX4_reckon 64 = .ok (.invokevirtual 90, 3) := by decide +kernel
theorem dX4_reckon_67 : decode cX4_reckon 67 = .ok (.aload_n 0, 1) := by decide +kernel
theorem dX4_reckon_68 : decode cX4_reckon 68 = .ok (.invokevirtual 118, 3) := by decide +kernel
theorem dX4_reckon_71 : decode cX4_reckon 71 = .ok (.istore_n 2, 1) := by decide +kernel
theorem dX4_reckon_72 : decode cX4_reckon 72 = .ok (.aload_n 0, 1) := by decide +kernel
theorem dX4_reckon_73 : decode cX4_reckon 73 = .ok (.iconst 0, 1) := by decide +kernel
theorem dX4_reckon_74 : decode cX4_reckon 74 = .ok (.putfield 109, 3) := by decide +kernel
theorem dX4_reckon_77 : decode cX4_reckon 77 = .ok (.iload_n 2, 1) := by decide +kernel
theorem dX4_reckon_78 : decode cX4_reckon 78 = .ok (.ireturn, 1) := by decide +kernel
set_option maxRecDepth 20000 in
theorem ggX4_undo_X4_holds : GoodIn wsX4_undo wsX4_holds := goodIn_r _ [8, 9, 10, 11, 12, 13, 14, 15, 16, 17] (by decide +kernel) (by decide +kernel)
set_option maxRecDepth 20000 in
theorem gX4_undo_X4_holds : GoodIn wsX4_undo (wsV RX4 87 RX4 yX4_holds wsX4_holds) := goodIn_app (goodIn_of _ (by decide +kernel)) ggX4_undo_X4_holds
theorem dX4_undo_0 : decode cX4_undo 0 = .ok (.aload_n 0, 1) := by decide +kernel
theorem dX4_undo_1 : decode cX4_undo 1 = .ok (.aload_n 0, 1) := by decide +kernel
theorem dX4_undo_2 : decode cX4_undo 2 = .ok (.getfield 30, 3) := by decide +kernel
theorem dX4_undo_5 : decode cX4_undo 5 = .ok (.ifCond .le 7, 3) := by decide +kernel
theorem dX4_undo_8 : decode cX4_undo 8 = .ok (.iconst 0, 1) := by decide +kernel
theorem dX4_undo_9 : decode cX4_undo 9 = .ok (.goto 4, 3) := by decide +kernel
theorem dX4_undo_12 : decode cX4_undo 12 = .ok (.iconst 1, 1) := by decide +kernel
theorem dX4_undo_13 : decode cX4_undo 13 = .ok (.invokevirtual 87, 3) := by decide +kernel
theorem dX4_undo_16 : decode cX4_undo 16 = .ok (.ifCond .ne 5, 3) := by decide +kernel
theorem dX4_undo_19 : decode cX4_undo 19 = .ok (.iconst 0, 1) := by decide +kernel
theorem dX4_undo_20 : decode cX4_undo 20 = .ok (.ireturn, 1) := by decide +kernel
theorem dX4_undo_21 : decode cX4_undo 21 = .ok (.aload_n 0, 1) := by decide +kernel
theorem dX4_undo_22 : decode cX4_undo 22 = .ok (.dup, 1) := by decide +kernel
theorem dX4_undo_23 : decode cX4_undo 23 = .ok (.getfield 30, 3) := by decide +kernel
theorem dX4_undo_26 : decode cX4_undo 26 = .ok (.iconst 1, 1) := by decide +kernel
theorem dX4_undo_27 : decode cX4_undo 27 = .ok (.isub, 1) := by decide +kernel
theorem dX4_undo_28 : decode cX4_undo 28 = .ok (.putfield 30, 3) := by decide +kernel
theorem dX4_undo_31 : decode cX4_undo 31 = .ok (.iconst 0, 1) := by decide +kernel
theorem dX4_undo_32 : decode cX4_undo 32 = .ok (.istore_n 1, 1) := by decide +kernel
theorem dX4_undo_33 : decode cX4_undo 33 = .ok (.iload_n 1, 1) := by decide +kernel
theorem dX4_undo_34 : decode cX4_undo 34 = .ok (.bipush 55, 2) := by decide +kernel
theorem dX4_undo_36 : decode cX4_undo 36 = .ok (.if_icmp .ge 29, 3) := by decide +kernel
theorem dX4_undo_39 : decode cX4_undo 39 = .ok (.aload_n 0, 1) := by decide +kernel
theorem dX4_undo_40 : decode cX4_undo 40 = .ok (.getfield 7, 3) := by decide +kernel
theorem dX4_undo_43 : decode cX4_undo 43 = .ok (.iload_n 1, 1) := by decide +kernel
theorem dX4_undo_44 : decode cX4_undo 44 = .ok (.aload_n 0, 1) := by decide +kernel
theorem dX4_undo_45 : decode cX4_undo 45 = .ok (.getfield 16, 3) := by decide +kernel
theorem dX4_undo_48 : decode cX4_undo 48 = .ok (.bipush 55, 2) := by decide +kernel
theorem dX4_undo_50 : decode cX4_undo 50 = .ok (.aload_n 0, 1) := by decide +kernel
theorem dX4_undo_51 : decode cX4_undo 51 = .ok (.getfield 30, 3) := by decide +kernel
theorem dX4_undo_54 : decode cX4_undo 54 = .ok (.imul, 1) := by decide +kernel
theorem dX4_undo_55 : decode cX4_undo 55 = .ok (.iload_n 1, 1) := by decide +kernel
theorem dX4_undo_56 : decode cX4_undo 56 = .ok (.iadd, 1) := by decide +kernel
theorem dX4_undo_57 : decode cX4_undo 57 = .ok (.iaload, 1) := by decide +kernel
theorem dX4_undo_58 : decode cX4_undo 58 = .ok (.iastore, 1) := by decide +kernel
theorem dX4_undo_59 : decode cX4_undo 59 = .ok (.iinc 1 1, 3) := by decide +kernel
theorem dX4_undo_62 : decode cX4_undo 62 = .ok (.goto (-29), 3) := by decide +kernel
theorem dX4_undo_65 : decode cX4_undo 65 = .ok (.aload_n 0, 1) := by decide +kernel
theorem dX4_undo_66 : decode cX4_undo 66 = .ok (.getfield 30, 3) := by decide +kernel
theorem dX4_undo_69 : decode cX4_undo 69 = .ok (.ireturn, 1) := by decide +kernel
set_option maxRecDepth 20000 in
theorem ggX4_numbers_X4_can : GoodIn wsX4_numbers wsX4_can := goodIn_r _ [5, 6, 7, 8, 4, 9, 10, 11, 12, 13, 14, 15, 16, 17, 18, 19, 20, 21, 22, 23, 24, 25, 26, 27, 28, 29, 30, 31, 32, 33, 34, 35] (by decide +kernel) (by decide +kernel)
set_option maxRecDepth 20000 in
theorem gX4_numbers_X4_can : GoodIn wsX4_numbers (wsV RX4 57 RX4 yX4_can wsX4_can) := goodIn_app (goodIn_of _ (by decide +kernel)) ggX4_numbers_X4_can
theorem dX4_numbers_0 : decode cX4_numbers 0 = .ok (.iconst 0, 1) := by decide +kernel
theorem dX4_numbers_1 : decode cX4_numbers 1 = .ok (.istore_n 2, 1) := by decide +kernel
theorem dX4_numbers_2 : decode cX4_numbers 2 = .ok (.iconst 0, 1) := by decide +kernel
theorem dX4_numbers_3 : decode cX4_numbers 3 = .ok (.istore_n 3, 1) := by decide +kernel
theorem dX4_numbers_4 : decode cX4_numbers 4 = .ok (.iload_n 3, 1) := by decide +kernel
theorem dX4_numbers_5 : decode cX4_numbers 5 = .ok (.bipush 15, 2) := by decide +kernel
theorem dX4_numbers_7 : decode cX4_numbers 7 = .ok (.if_icmp .gt 26, 3) := by decide +kernel
theorem dX4_numbers_10 : decode cX4_numbers 10 = .ok (.iload_n 2, 1) := by decide +kernel
theorem dX4_numbers_11 : decode cX4_numbers 11 = .ok (.aload_n 0, 1) := by decide +kernel
theorem dX4_numbers_12 : decode cX4_numbers 12 = .ok (.iload_n 1, 1) := by decide +kernel
theorem dX4_numbers_13 : decode cX4_numbers 13 = .ok (.iload_n 3, 1) := by decide +kernel
theorem dX4_numbers_14 : decode cX4_numbers 14 = .ok (.invokevirtual 57, 3) := by decide +kernel
theorem dX4_numbers_17 : decode cX4_numbers 17 = .ok (.ifCond .eq 7, 3) := by decide +kernel
theorem dX4_numbers_20 : decode cX4_numbers 20 = .ok (.iconst 1, 1) := by decide +kernel
theorem dX4_numbers_21 : decode cX4_numbers 21 = .ok (.goto 4, 3) := by decide +kernel
theorem dX4_numbers_24 : decode cX4_numbers 24 = .ok (.iconst 0, 1) := by decide +kernel
theorem dX4_numbers_25 : decode cX4_numbers 25 = .ok (.iadd, 1) := by decide +kernel
theorem dX4_numbers_26 : decode cX4_numbers 26 = .ok (.istore_n 2, 1) := by decide +kernel
theorem dX4_numbers_27 : decode cX4_numbers 27 = .ok (.iinc 3 1, 3) := by decide +kernel
theorem dX4_numbers_30 : decode cX4_numbers 30 = .ok (.goto (-26), 3) := by decide +kernel
theorem dX4_numbers_33 : decode cX4_numbers 33 = .ok (.iload_n 2, 1) := by decide +kernel
theorem dX4_numbers_34 : decode cX4_numbers 34 = .ok (.ireturn, 1) := by decide +kernel
set_option maxRecDepth 20000 in
theorem ggX4_told_X4_of : GoodIn wsX4_told wsX4_of := goodIn_r _ [5] (by decide +kernel) (by decide +kernel)
set_option maxRecDepth 20000 in
theorem gX4_told_X4_of : GoodIn wsX4_told (va_wsS RX4 33 yX4_of wsX4_of) := goodIn_app (goodIn_of _ (by decide +kernel)) ggX4_told_X4_of
set_option maxRecDepth 20000 in
theorem ggX4_told_X4_shows : GoodIn wsX4_told wsX4_shows := goodIn_r _ [9, 1, 2, 3, 4, 5, 36, 37, 38, 39, 40, 41, 42, 43] (by decide +kernel) (by decide +kernel)
set_option maxRecDepth 20000 in
theorem gX4_told_X4_shows : GoodIn wsX4_told (wsV RX4 54 RX4 yX4_shows wsX4_shows) := goodIn_app (goodIn_of _ (by decide +kernel)) ggX4_told_X4_shows
set_option maxRecDepth 20000 in
theorem ggX4_told_X4_numbers : GoodIn wsX4_told wsX4_numbers := goodIn_r _ [13, 14, 15, 16, 4, 17, 18, 19, 20, 21, 22, 23, 24, 25, 26, 27, 28, 1, 2, 3, 5, 29, 30, 31, 32, 33, 34, 35, 36, 37, 38, 39, 40, 41, 42, 43] (by decide +kernel) (by decide +kernel)
set_option maxRecDepth 20000 in
theorem gX4_told_X4_numbers : GoodIn wsX4_told (wsV RX4 121 RX4 yX4_numbers wsX4_numbers) := goodIn_app (goodIn_of _ (by decide +kernel)) ggX4_told_X4_numbers
theorem dX4_told_0 : decode cX4_told 0 = .ok (.iload_n 2, 1) := by decide +kernel
theorem dX4_told_1 : decode cX4_told 1 = .ok (.tableswitch 89 0 6 #[43, 43, 54, 60, 74, 74, 74], 43) := by decide +kernel
theorem dX4_told_44 : decode cX4_told 44 = .ok (.aload_n 0, 1) := by decide +kernel
theorem dX4_told_45 : decode cX4_told 45 = .ok (.getfield 7, 3) := by decide +kernel
theorem dX4_told_48 : decode cX4_told 48 = .ok (.iload_n 1, 1) := by decide +kernel
theorem dX4_told_49 : decode cX4_told 49 = .ok (.iload_n 2, 1) := by decide +kernel
theorem dX4_told_50 : decode cX4_told 50 = .ok (.invokestatic 33, 3) := by decide +kernel
theorem dX4_told_53 : decode cX4_told 53 = .ok (.iaload, 1) := by decide +kernel
theorem dX4_told_54 : decode cX4_told 54 = .ok (.ireturn, 1) := by decide +kernel
theorem dX4_told_55 : decode cX4_told 55 = .ok (.aload_n 0, 1) := by decide +kernel
theorem dX4_told_56 : decode cX4_told 56 = .ok (.iload_n 1, 1) := by decide +kernel
theorem dX4_told_57 : decode cX4_told 57 = .ok (.invokevirtual 54, 3) := by decide +kernel
theorem dX4_told_60 : decode cX4_told 60 = .ok (.ireturn, 1) := by decide +kernel
theorem dX4_told_61 : decode cX4_told 61 = .ok (.aload_n 0, 1) := by decide +kernel
theorem dX4_told_62 : decode cX4_told 62 = .ok (.getfield 7, 3) := by decide +kernel
theorem dX4_told_65 : decode cX4_told 65 = .ok (.iload_n 1, 1) := by decide +kernel
theorem dX4_told_66 : decode cX4_told 66 = .ok (.iconst 2, 1) := by decide +kernel
theorem dX4_told_67 : decode cX4_told 67 = .ok (.invokestatic 33, 3) := by decide +kernel
theorem dX4_told_70 : decode cX4_told 70 = .ok (.iaload, 1) := by decide +kernel
theorem dX4_told_71 : decode cX4_told 71 = .ok (.bipush 100, 2) := by decide +kernel
theorem dX4_told_73 : decode cX4_told 73 = .ok (.iadd, 1) := by decide +kernel
theorem dX4_told_74 : decode cX4_told 74 = .ok (.ireturn, 1) := by decide +kernel
theorem dX4_told_75 : decode cX4_told 75 = .ok (.aload_n 0, 1) := by decide +kernel
theorem dX4_told_76 : decode cX4_told 76 = .ok (.getfield 7, 3) := by decide +kernel
theorem dX4_told_79 : decode cX4_told 79 = .ok (.iload_n 1, 1) := by decide +kernel
theorem dX4_told_80 : decode cX4_told 80 = .ok (.iconst 3, 1) := by decide +kernel
theorem dX4_told_81 : decode cX4_told 81 = .ok (.iload_n 2, 1) := by decide +kernel
theorem dX4_told_82 : decode cX4_told 82 = .ok (.iadd, 1) := by decide +kernel
theorem dX4_told_83 : decode cX4_told 83 = .ok (.iconst 4, 1) := by decide +kernel
theorem dX4_told_84 : decode cX4_told 84 = .ok (.isub, 1) := by decide +kernel
theorem dX4_told_85 : decode cX4_told 85 = .ok (.invokestatic 33, 3) := by decide +kernel
theorem dX4_told_88 : decode cX4_told 88 = .ok (.iaload, 1) := by decide +kernel
theorem dX4_told_89 : decode cX4_told 89 = .ok (.ireturn, 1) := by decide +kernel
theorem dX4_told_90 : decode cX4_told 90 = .ok (.aload_n 0, 1) := by decide +kernel
theorem dX4_told_91 : decode cX4_told 91 = .ok (.iload_n 1, 1) := by decide +kernel
theorem dX4_told_92 : decode cX4_told 92 = .ok (.invokevirtual 121, 3) := by decide +kernel
theorem dX4_told_95 : decode cX4_told 95 = .ok (.ireturn, 1) := by decide +kernel
set_option maxRecDepth 20000 in
theorem ggX4_rod_X4_isRod : GoodIn wsX4_rod wsX4_isRod := goodIn_r _ [4, 5, 6, 3, 7] (by decide +kernel) (by decide +kernel)
set_option maxRecDepth 20000 in
theorem gX4_rod_X4_isRod : GoodIn wsX4_rod (va_wsS RX4 84 yX4_isRod wsX4_isRod) := goodIn_app (goodIn_of _ (by decide +kernel)) ggX4_rod_X4_isRod
set_option maxRecDepth 20000 in
theorem ggX4_rod_X4_in : GoodIn wsX4_rod wsX4_in := goodIn_r _ [7] (by decide +kernel) (by decide +kernel)
set_option maxRecDepth 20000 in
theorem gX4_rod_X4_in : GoodIn wsX4_rod (va_wsS RX4 26 yX4_in wsX4_in) := goodIn_app (goodIn_of _ (by decide +kernel)) ggX4_rod_X4_in
set_option maxRecDepth 20000 in
theorem ggX4_rod_X4_holds : GoodIn wsX4_rod wsX4_holds := goodIn_r _ [11, 12, 48, 49, 50, 51, 52, 53, 54, 55] (by decide +kernel) (by decide +kernel)
set_option maxRecDepth 20000 in
theorem gX4_rod_X4_holds : GoodIn wsX4_rod (wsV RX4 87 RX4 yX4_holds wsX4_holds) := goodIn_app (goodIn_of _ (by decide +kernel)) ggX4_rod_X4_holds
set_option maxRecDepth 20000 in
theorem ggX4_rod_X4_told : GoodIn wsX4_rod wsX4_told := goodIn_r _ [16, 17, 18, 19, 3, 20, 21, 22, 23, 24, 25, 26, 27, 28, 29, 30, 31, 32, 33, 34, 35, 36, 5, 6, 7, 37, 38, 39, 40, 41, 42, 43, 44, 45, 46, 47, 48, 49, 50, 51, 52, 53, 54, 55] (by decide +kernel) (by decide +kernel)
set_option maxRecDepth 20000 in
theorem gX4_rod_X4_told : GoodIn wsX4_rod (wsV RX4 124 RX4 yX4_told wsX4_told) := goodIn_app (goodIn_of _ (by decide +kernel)) ggX4_rod_X4_told
theorem dX4_rod_0 : decode cX4_rod 0 = .ok (.aload_n 0, 1) := by decide +kernel
theorem dX4_rod_1 : decode cX4_rod 1 = .ok (.iload_n 1, 1) := by decide +kernel
theorem dX4_rod_2 : decode cX4_rod 2 = .ok (.invokestatic 84, 3) := by decide +kernel
theorem dX4_rod_5 : decode cX4_rod 5 = .ok (.ifCond .ne 7, 3) := by decide +kernel
theorem dX4_rod_8 : decode cX4_rod 8 = .ok (.iconst 1, 1) := by decide +kernel
theorem dX4_rod_9 : decode cX4_rod 9 = .ok (.goto 18, 3) := by decide +kernel
theorem dX4_rod_12 : decode cX4_rod 12 = .ok (.iload_n 2, 1) := by decide +kernel
theorem dX4_rod_13 : decode cX4_rod 13 = .ok (.iconst 0, 1) := by decide +kernel
theorem dX4_rod_14 : decode cX4_rod 14 = .ok (.bipush 7, 2) := by decide +kernel
theorem dX4_rod_16 : decode cX4_rod 16 = .ok (.invokestatic 26, 3) := by decide +kernel
theorem dX4_rod_19 : decode cX4_rod 19 = .ok (.ifCond .ne 7, 3) := by decide +kernel
theorem dX4_rod_22 : decode cX4_rod 22 = .ok (.iconst 2, 1) := by decide +kernel
theorem dX4_rod_23 : decode cX4_rod 23 = .ok (.goto 4, 3) := by decide +kernel
theorem dX4_rod_26 : decode cX4_rod 26 = .ok (.iconst 0, 1) := by decide +kernel
theorem dX4_rod_27 : decode cX4_rod 27 = .ok (.invokevirtual 87, 3) := by decide +kernel
theorem dX4_rod_30 : decode cX4_rod 30 = .ok (.ifCond .eq 12, 3) := by decide +kernel
theorem dX4_rod_33 : decode cX4_rod 33 = .ok (.aload_n 0, 1) := by decide +kernel
theorem dX4_rod_34 : decode cX4_rod 34 = .ok (.iload_n 1, 1) := by decide +kernel
theorem dX4_rod_35 : decode cX4_rod 35 = .ok (.iload_n 2, 1) := by decide +kernel
theorem dX4_rod_36 : decode cX4_rod 36 = .ok (.invokevirtual 124, 3) := by decide +kernel
theorem dX4_rod_39 : decode cX4_rod 39 = .ok (.goto 4, 3) := by decide +kernel
theorem dX4_rod_42 : decode cX4_rod 42 = .ok (.iconst 0, 1) := by decide +kernel
theorem dX4_rod_43 : decode cX4_rod 43 = .ok (.ireturn, 1) := by decide +kernel
set_option maxRecDepth 20000 in
theorem ggX4_all_X4_shows : GoodIn wsX4_all wsX4_shows := goodIn_r _ [7, 2, 8, 9, 6, 10, 11, 12, 13, 14, 15, 16, 17, 18] (by decide +kernel) (by decide +kernel)
set_option maxRecDepth 20000 in
theorem gX4_all_X4_shows : GoodIn wsX4_all (wsV RX4 54 RX4 yX4_shows wsX4_shows) := goodIn_app (goodIn_of _ (by decide +kernel)) ggX4_all_X4_shows
set_option maxRecDepth 20000 in
theorem ggX4_all_X4_of : GoodIn wsX4_all wsX4_of := goodIn_r _ [10] (by decide +kernel) (by decide +kernel)
set_option maxRecDepth 20000 in
theorem gX4_all_X4_of : GoodIn wsX4_all (va_wsS RX4 33 yX4_of wsX4_of) := goodIn_app (goodIn_of _ (by decide +kernel)) ggX4_all_X4_of
theorem dX4_all_0 : decode cX4_all 0 = .ok (.lconst 0, 1) := by decide +kernel
theorem dX4_all_1 : decode cX4_all 1 = .ok (.lstore_n 1, 1) := by decide +kernel
theorem dX4_all_2 : decode cX4_all 2 = .ok (.bipush 8, 2) := by decide +kernel
theorem dX4_all_4 : decode cX4_all 4 = .ok (.istore_n 3, 1) := by decide +kernel
theorem dX4_all_5 : decode cX4_all 5 = .ok (.iload_n 3, 1) := by decide +kernel
theorem dX4_all_6 : decode cX4_all 6 = .ok (.ifCond .lt 34, 3) := by decide +kernel
theorem dX4_all_9 : decode cX4_all 9 = .ok (.ldc2_w 127, 3) := by decide +kernel
theorem dX4_all_12 : decode cX4_all 12 = .ok (.lload_n 1, 1) := by decide +kernel
theorem dX4_all_13 : decode cX4_all 13 = .ok (.lmul, 1) := by decide +kernel
theorem dX4_all_14 : decode cX4_all 14 = .ok (.aload_n 0, 1) := by decide +kernel
theorem dX4_all_15 : decode cX4_all 15 = .ok (.iload_n 3, 1) := by decide +kernel
theorem dX4_all_16 : decode cX4_all 16 = .ok (.invokevirtual 54, 3) := by decide +kernel
theorem dX4_all_19 : decode cX4_all 19 = .ok (.i2l, 1) := by decide +kernel
theorem dX4_all_20 : decode cX4_all 20 = .ok (.ladd, 1) := by decide +kernel
theorem dX4_all_21 : decode cX4_all 21 = .ok (.aload_n 0, 1) := by decide +kernel
theorem dX4_all_22 : decode cX4_all 22 = .ok (.getfield 7, 3) := by decide +kernel
theorem dX4_all_25 : decode cX4_all 25 = .ok (.iload_n 3, 1) := by decide +kernel
theorem dX4_all_26 : decode cX4_all 26 = .ok (.iconst 2, 1) := by decide +kernel
theorem dX4_all_27 : decode cX4_all 27 = .ok (.invokestatic 33, 3) := by decide +kernel
theorem dX4_all_30 : decode cX4_all 30 = .ok (.iaload, 1) := by decide +kernel
theorem dX4_all_31 : decode cX4_all 31 = .ok (.i2l, 1) := by decide +kernel
theorem dX4_all_32 : decode cX4_all 32 = .ok (.ladd, 1) := by decide +kernel
theorem dX4_all_33 : decode cX4_all 33 = .ok (.lstore_n 1, 1) := by decide +kernel
theorem dX4_all_34 : decode cX4_all 34 = .ok (.iinc 3 (-1), 3) := by decide +kernel
theorem dX4_all_37 : decode cX4_all 37 = .ok (.goto (-32), 3) := by decide +kernel
theorem dX4_all_40 : decode cX4_all 40 = .ok (.lload_n 1, 1) := by decide +kernel
theorem dX4_all_41 : decode cX4_all 41 = .ok (.lreturn, 1) := by decide +kernel
set_option maxRecDepth 20000 in
theorem ggX4_whole_X4_all : GoodIn wsX4_whole wsX4_all := goodIn_r _ [6, 7, 8, 9, 10, 11, 5, 12, 13, 14, 15, 16, 17, 18, 19, 20, 21, 22, 23] (by decide +kernel) (by decide +kernel)
set_option maxRecDepth 20000 in
theorem gX4_whole_X4_all : GoodIn wsX4_whole (wsV RX4 129 RX4 yX4_all wsX4_all) := goodIn_app (goodIn_of _ (by decide +kernel)) ggX4_whole_X4_all
theorem dX4_whole_0 : decode cX4_whole 0 = .ok (.aload_n 0, 1) := by decide +kernel
theorem dX4_whole_1 : decode cX4_whole 1 = .ok (.iconst 0, 1) := by decide +kernel
theorem dX4_whole_2 : decode cX4_whole 2 = .ok (.putfield 22, 3) := by decide +kernel
theorem dX4_whole_5 : decode cX4_whole 5 = .ok (.aload_n 0, 1) := by decide +kernel
theorem dX4_whole_6 : decode cX4_whole 6 = .ok (.invokevirtual 129, 3) := by decide +kernel
theorem dX4_whole_9 : decode cX4_whole 9 = .ok (.lreturn, 1) := by decide +kernel
set_option maxRecDepth 20000 in
theorem ggX4_sum_X4_of : GoodIn wsX4_sum wsX4_of := goodIn_r _ [5] (by decide +kernel) (by decide +kernel)
set_option maxRecDepth 20000 in
theorem gX4_sum_X4_of : GoodIn wsX4_sum (va_wsS RX4 33 yX4_of wsX4_of) := goodIn_app (goodIn_of _ (by decide +kernel)) ggX4_sum_X4_of
set_option maxRecDepth 20000 in
theorem ggX4_sum_X4_shows : GoodIn wsX4_sum wsX4_shows := goodIn_r _ [9, 1, 2, 3, 4, 5, 10, 11, 12, 13, 14, 15, 16, 17] (by decide +kernel) (by decide +kernel)
set_option maxRecDepth 20000 in
theorem gX4_sum_X4_shows : GoodIn wsX4_sum (wsV RX4 54 RX4 yX4_shows wsX4_shows) := goodIn_app (goodIn_of _ (by decide +kernel)) ggX4_sum_X4_shows
theorem dX4_sum_0 : decode cX4_sum 0 = .ok (.iconst 0, 1) := by decide +kernel
theorem dX4_sum_1 : decode cX4_sum 1 = .ok (.istore_n 2, 1) := by decide +kernel
theorem dX4_sum_2 : decode cX4_sum 2 = .ok (.iconst 0, 1) := by decide +kernel
theorem dX4_sum_3 : decode cX4_sum 3 = .ok (.istore_n 3, 1) := by decide +kernel
theorem dX4_sum_4 : decode cX4_sum 4 = .ok (.iload_n 3, 1) := by decide +kernel
theorem dX4_sum_5 : decode cX4_sum 5 = .ok (.bipush 9, 2) := by decide +kernel
theorem dX4_sum_7 : decode cX4_sum 7 = .ok (.if_icmp .ge 99, 3) := by decide +kernel
theorem dX4_sum_10 : decode cX4_sum 10 = .ok (.aload_n 0, 1) := by decide +kernel
theorem dX4_sum_11 : decode cX4_sum 11 = .ok (.getfield 7, 3) := by decide +kernel
theorem dX4_sum_14 : decode cX4_sum 14 = .ok (.iload_n 3, 1) := by decide +kernel
theorem dX4_sum_15 : decode cX4_sum 15 = .ok (.iconst 2, 1) := by decide +kernel
theorem dX4_sum_16 : decode cX4_sum 16 = .ok (.invokestatic 33, 3) := by decide +kernel
theorem dX4_sum_19 : decode cX4_sum 19 = .ok (.iaload, 1) := by decide +kernel
theorem dX4_sum_20 : decode cX4_sum 20 = .ok (.istore 4, 2) := by decide +kernel
theorem dX4_sum_22 : decode cX4_sum 22 = .ok (.iload_n 2, 1) := by decide +kernel
theorem dX4_sum_23 : decode cX4_sum 23 = .ok (.iload_n 1, 1) := by decide +kernel
theorem dX4_sum_24 : decode cX4_sum 24 = .ok (.iconst 2, 1) := by decide +kernel
theorem dX4_sum_25 : decode cX4_sum 25 = .ok (.if_icmp .ne 8, 3) := by decide +kernel
theorem dX4_sum_28 : decode cX4_sum 28 = .ok (.iload 4, 2) := by decide +kernel
theorem dX4_sum_30 : decode cX4_sum 30 = .ok (.goto 68, 3) := by decide +kernel
theorem dX4_sum_33 : decode cX4_sum 33 = .ok (.iload_n 1, 1) := by decide +kernel
theorem dX4_sum_34 : decode cX4_sum 34 = .ok (.iconst 3, 1) := by decide +kernel
theorem dX4_sum_35 : decode cX4_sum 35 = .ok (.if_icmp .ne 14, 3) := by decide +kernel
theorem dX4_sum_38 : decode cX4_sum 38 = .ok (.aload_n 0, 1) := by decide +kernel
theorem dX4_sum_39 : decode cX4_sum 39 = .ok (.iload_n 3, 1) := by decide +kernel
theorem dX4_sum_40 : decode cX4_sum 40 = .ok (.invokevirtual 54, 3) := by decide +kernel
theorem dX4_sum_43 : decode cX4_sum 43 = .ok (.iload 4, 2) := by decide +kernel
theorem dX4_sum_45 : decode cX4_sum 45 = .ok (.iadd, 1) := by decide +kernel
theorem dX4_sum_46 : decode cX4_sum 46 = .ok (.goto 52, 3) := by decide +kernel
theorem dX4_sum_49 : decode cX4_sum 49 = .ok (.iload_n 1, 1) := by decide +kernel
theorem dX4_sum_50 : decode cX4_sum 50 = .ok (.iconst 1, 1) := by decide +kernel
theorem dX4_sum_51 : decode cX4_sum 51 = .ok (.if_icmp .ne 11, 3) := by decide +kernel
theorem dX4_sum_54 : decode cX4_sum 54 = .ok (.iload 4, 2) := by decide +kernel
theorem dX4_sum_56 : decode cX4_sum 56 = .ok (.ifCond .eq 41, 3) := by decide +kernel
theorem dX4_sum_59 : decode cX4_sum 59 = .ok (.goto 34, 3) := by decide +kernel
theorem dX4_sum_62 : decode cX4_sum 62 = .ok (.iload_n 1, 1) := by decide +kernel
theorem dX4_sum_63 : decode cX4_sum 63 = .ok (.iconst 4, 1) := by decide +kernel
theorem dX4_sum_64 : decode cX4_sum 64 = .ok (.if_icmp .ne 16, 3) := by decide +kernel
theorem dX4_sum_67 : decode cX4_sum 67 = .ok (.aload_n 0, 1) := by decide +kernel
theorem dX4_sum_68 : decode cX4_sum 68 = .ok (.iload_n 3, 1) := by decide +kernel
theorem dX4_sum_69 : decode cX4_sum 69 = .ok (.invokevirtual 54, 3) := by decide +kernel
theorem dX4_sum_72 : decode cX4_sum 72 = .ok (.bipush 10, 2) := by decide +kernel
theorem dX4_sum_74 : decode cX4_sum 74 = .ok (.if_icmp .lt 23, 3) := by decide +kernel
theorem dX4_sum_77 : decode cX4_sum 77 = .ok (.goto 16, 3) := by decide +kernel
theorem dX4_sum_80 : decode cX4_sum 80 = .ok (.aload_n 0, 1) := by decide +kernel
theorem dX4_sum_81 : decode cX4_sum 81 = .ok (.getfield 7, 3) := by decide +kernel
theorem dX4_sum_84 : decode cX4_sum 84 = .ok (.iload_n 3, 1) := by decide +kernel
theorem dX4_sum_85 : decode cX4_sum 85 = .ok (.iconst 3, 1) := by decide +kernel
theorem dX4_sum_86 : decode cX4_sum 86 = .ok (.invokestatic 33, 3) := by decide +kernel
theorem dX4_sum_89 : decode cX4_sum 89 = .ok (.iaload, 1) := by decide +kernel
theorem dX4_sum_90 : decode cX4_sum 90 = .ok (.ifCond .le 7, 3) := by decide +kernel
theorem dX4_sum_93 : decode cX4_sum 93 = .ok (.iconst 1, 1) := by decide +kernel
theorem dX4_sum_94 : decode cX4_sum 94 = .ok (.goto 4, 3) := by decide +kernel
theorem dX4_sum_97 : decode cX4_sum 97 = .ok (.iconst 0, 1) := by decide +kernel
theorem dX4_sum_98 : decode cX4_sum 98 = .ok (.iadd, 1) := by decide +kernel
theorem dX4_sum_99 : decode cX4_sum 99 = .ok (.istore_n 2, 1) := by decide +kernel
theorem dX4_sum_100 : decode cX4_sum 100 = .ok (.iinc 3 1, 3) := by decide +kernel
theorem dX4_sum_103 : decode cX4_sum 103 = .ok (.goto (-99), 3) := by decide +kernel
theorem dX4_sum_106 : decode cX4_sum 106 = .ok (.iload_n 2, 1) := by decide +kernel
theorem dX4_sum_107 : decode cX4_sum 107 = .ok (.ireturn, 1) := by decide +kernel
set_option maxRecDepth 20000 in
theorem ggX4_counted_X4_allMoves : GoodIn wsX4_counted wsX4_allMoves := goodIn_r _ [7, 1, 8, 9, 6, 10, 19, 20, 21, 22, 23, 24, 25, 26] (by decide +kernel) (by decide +kernel)
set_option maxRecDepth 20000 in
theorem gX4_counted_X4_allMoves : GoodIn wsX4_counted (wsV RX4 96 RX4 yX4_allMoves wsX4_allMoves) := goodIn_app (goodIn_of _ (by decide +kernel)) ggX4_counted_X4_allMoves
set_option maxRecDepth 20000 in
theorem ggX4_counted_X4_sum : GoodIn wsX4_counted wsX4_sum := goodIn_r _ [14, 1, 8, 9, 6, 10, 15, 16, 17, 18, 19, 20, 21, 22, 23, 24, 25, 26] (by decide +kernel) (by decide +kernel)
set_option maxRecDepth 20000 in
theorem gX4_counted_X4_sum : GoodIn wsX4_counted (wsV RX4 133 RX4 yX4_sum wsX4_sum) := goodIn_app (goodIn_of _ (by decide +kernel)) ggX4_counted_X4_sum
theorem dX4_counted_0 : decode cX4_counted 0 = .ok (.iload_n 1, 1) := by decide +kernel
theorem dX4_counted_1 : decode cX4_counted 1 = .ok (.tableswitch 82 0 6 #[43, 48, 54, 63, 48, 48, 75], 43) := by decide +kernel
theorem dX4_counted_44 : decode cX4_counted 44 = .ok (.aload_n 0, 1) := by decide +kernel
theorem dX4_counted_45 : decode cX4_counted 45 = .ok (.invokevirtual 96, 3) := by decide +kernel
theorem dX4_counted_48 : decode cX4_counted 48 = .ok (.ireturn, 1) := by decide +kernel
theorem dX4_counted_49 : decode cX4_counted 49 = .ok (.aload_n 0, 1) := by decide +kernel
theorem dX4_counted_50 : decode cX4_counted 50 = .ok (.iload_n 1, 1) := by decide +kernel
theorem dX4_counted_51 : decode cX4_counted 51 = .ok (.invokevirtual 133, 3) := by decide +kernel
theorem dX4_counted_54 : decode cX4_counted 54 = .ok (.ireturn, 1) := by decide +kernel
theorem dX4_counted_55 : decode cX4_counted 55 = .ok (.aload_n 0, 1) := by decide +kernel
theorem dX4_counted_56 : decode cX4_counted 56 = .ok (.iconst 2, 1) := by decide +kernel
theorem dX4_counted_57 : decode cX4_counted 57 = .ok (.invokevirtual 133, 3) := by decide +kernel
theorem dX4_counted_60 : decode cX4_counted 60 = .ok (.bipush 100, 2) := by decide +kernel
theorem dX4_counted_62 : decode cX4_counted 62 = .ok (.iadd, 1) := by decide +kernel
theorem dX4_counted_63 : decode cX4_counted 63 = .ok (.ireturn, 1) := by decide +kernel
theorem dX4_counted_64 : decode cX4_counted 64 = .ok (.aload_n 0, 1) := by decide +kernel
theorem dX4_counted_65 : decode cX4_counted 65 = .ok (.iconst 3, 1) := by decide +kernel
theorem dX4_counted_66 : decode cX4_counted 66 = .ok (.invokevirtual 133, 3) := by decide +kernel
theorem dX4_counted_69 : decode cX4_counted 69 = .ok (.bipush 90, 2) := by decide +kernel
theorem dX4_counted_71 : decode cX4_counted 71 = .ok (.iadd, 1) := by decide +kernel
theorem dX4_counted_72 : decode cX4_counted 72 = .ok (.bipush 9, 2) := by decide +kernel
theorem dX4_counted_74 : decode cX4_counted 74 = .ok (.irem, 1) := by decide +kernel
theorem dX4_counted_75 : decode cX4_counted 75 = .ok (.ireturn, 1) := by decide +kernel
theorem dX4_counted_76 : decode cX4_counted 76 = .ok (.aload_n 0, 1) := by decide +kernel
theorem dX4_counted_77 : decode cX4_counted 77 = .ok (.getfield 7, 3) := by decide +kernel
theorem dX4_counted_80 : decode cX4_counted 80 = .ok (.iconst 0, 1) := by decide +kernel
theorem dX4_counted_81 : decode cX4_counted 81 = .ok (.iaload, 1) := by decide +kernel
theorem dX4_counted_82 : decode cX4_counted 82 = .ok (.ireturn, 1) := by decide +kernel
theorem dX4_counted_83 : decode cX4_counted 83 = .ok (.aload_n 0, 1) := by decide +kernel
theorem dX4_counted_84 : decode cX4_counted 84 = .ok (.getfield 30, 3) := by decide +kernel
theorem dX4_counted_87 : decode cX4_counted 87 = .ok (.ireturn, 1) := by decide +kernel
set_option maxRecDepth 20000 in
theorem ggX4_count_X4_in : GoodIn wsX4_count wsX4_in := goodIn_r _ [4] (by decide +kernel) (by decide +kernel)
set_option maxRecDepth 20000 in
theorem gX4_count_X4_in : GoodIn wsX4_count (va_wsS RX4 26 yX4_in wsX4_in) := goodIn_app (goodIn_of _ (by decide +kernel)) ggX4_count_X4_in
set_option maxRecDepth 20000 in
theorem ggX4_count_X4_holds : GoodIn wsX4_count wsX4_holds := goodIn_r _ [8, 9, 31, 32, 33, 34, 35, 36, 37, 38] (by decide +kernel) (by decide +kernel)
set_option maxRecDepth 20000 in
theorem gX4_count_X4_holds : GoodIn wsX4_count (wsV RX4 87 RX4 yX4_holds wsX4_holds) := goodIn_app (goodIn_of _ (by decide +kernel)) ggX4_count_X4_holds
set_option maxRecDepth 20000 in
theorem ggX4_count_X4_counted : GoodIn wsX4_count wsX4_counted := goodIn_r _ [13, 14, 15, 16, 17, 18, 3, 19, 20, 21, 22, 23, 24, 25, 26, 27, 28, 29, 30, 31, 32, 33, 34, 35, 36, 37, 38] (by decide +kernel) (by decide +kernel)
set_option maxRecDepth 20000 in
theorem gX4_count_X4_counted : GoodIn wsX4_count (wsV RX4 136 RX4 yX4_counted wsX4_counted) := goodIn_app (goodIn_of _ (by decide +kernel)) ggX4_count_X4_counted
theorem dX4_count_0 : decode cX4_count 0 = .ok (.aload_n 0, 1) := by decide +kernel
theorem dX4_count_1 : decode cX4_count 1 = .ok (.iload_n 1, 1) := by decide +kernel
theorem dX4_count_2 : decode cX4_count 2 = .ok (.iconst 0, 1) := by decide +kernel
theorem dX4_count_3 : decode cX4_count 3 = .ok (.bipush 7, 2) := by decide +kernel
theorem dX4_count_5 : decode cX4_count 5 = .ok (.invokestatic 26, 3) := by decide +kernel
theorem dX4_count_8 : decode cX4_count 8 = .ok (.ifCond .eq 7, 3) := by decide +kernel
theorem dX4_count_11 : decode cX4_count 11 = .ok (.iconst 0, 1) := by decide +kernel
theorem dX4_count_12 : decode cX4_count 12 = .ok (.goto 4, 3) := by decide +kernel
theorem dX4_count_15 : decode cX4_count 15 = .ok (.iconst 1, 1) := by decide +kernel
theorem dX4_count_16 : decode cX4_count 16 = .ok (.invokevirtual 87, 3) := by decide +kernel
theorem dX4_count_19 : decode cX4_count 19 = .ok (.ifCond .eq 11, 3) := by decide +kernel
theorem dX4_count_22 : decode cX4_count 22 = .ok (.aload_n 0, 1) := by decide +kernel
theorem dX4_count_23 : decode cX4_count 23 = .ok (.iload_n 1, 1) := by decide +kernel
theorem dX4_count_24 : decode cX4_count 24 = .ok (.invokevirtual 136, 3) := by decide +kernel
theorem dX4_count_27 : decode cX4_count 27 = .ok (.goto 4, 3) := by decide +kernel
theorem dX4_count_30 : decode cX4_count 30 = .ok (.iconst 0, 1) := by decide +kernel
theorem dX4_count_31 : decode cX4_count 31 = .ok (.ireturn, 1) := by decide +kernel
set_option maxRecDepth 20000 in
theorem ggX4_movesFor_X4_fivesFor : GoodIn wsX4_movesFor wsX4_fivesFor := goodIn_r _ [5, 6, 7, 4, 8, 9, 10, 11, 12, 13, 14, 15, 16, 17, 18, 19, 20, 21, 22, 23, 24, 25, 26, 27, 28, 29, 30, 31] (by decide +kernel) (by decide +kernel)
set_option maxRecDepth 20000 in
theorem gX4_movesFor_X4_fivesFor : GoodIn wsX4_movesFor (wsV RX4 48 RX4 yX4_fivesFor wsX4_fivesFor) := goodIn_app (goodIn_of _ (by decide +kernel)) ggX4_movesFor_X4_fivesFor
set_option maxRecDepth 20000 in
theorem ggX4_movesFor_X4_movesTo : GoodIn wsX4_movesFor wsX4_movesTo := goodIn_r _ [20, 13, 14, 15, 4, 16, 21, 22, 23, 24, 25, 26, 27, 28, 29, 30, 31] (by decide +kernel) (by decide +kernel)
set_option maxRecDepth 20000 in
theorem gX4_movesFor_X4_movesTo : GoodIn wsX4_movesFor (wsV RX4 44 RX4 yX4_movesTo wsX4_movesTo) := goodIn_app (goodIn_of _ (by decide +kernel)) ggX4_movesFor_X4_movesTo
theorem dX4_movesFor_0 : decode cX4_movesFor 0 = .ok (.aload_n 0, 1) := by decide +kernel
theorem dX4_movesFor_1 : decode cX4_movesFor 1 = .ok (.iload_n 1, 1) := by decide +kernel
theorem dX4_movesFor_2 : decode cX4_movesFor 2 = .ok (.iload_n 2, 1) := by decide +kernel
theorem dX4_movesFor_3 : decode cX4_movesFor 3 = .ok (.invokevirtual 48, 3) := by decide +kernel
theorem dX4_movesFor_6 : decode cX4_movesFor 6 = .ok (.istore_n 3, 1) := by decide +kernel
theorem dX4_movesFor_7 : decode cX4_movesFor 7 = .ok (.iload_n 3, 1) := by decide +kernel
theorem dX4_movesFor_8 : decode cX4_movesFor 8 = .ok (.iconst (-1), 1) := by decide +kernel
theorem dX4_movesFor_9 : decode cX4_movesFor 9 = .ok (.if_icmp .ne 7, 3) := by decide +kernel
theorem dX4_movesFor_12 : decode cX4_movesFor 12 = .ok (.iconst (-1), 1) := by decide +kernel
theorem dX4_movesFor_13 : decode cX4_movesFor 13 = .ok (.goto 14, 3) := by decide +kernel
theorem dX4_movesFor_16 : decode cX4_movesFor 16 = .ok (.aload_n 0, 1) := by decide +kernel
theorem dX4_movesFor_17 : decode cX4_movesFor 17 = .ok (.iload_n 1, 1) := by decide +kernel
theorem dX4_movesFor_18 : decode cX4_movesFor 18 = .ok (.iload_n 3, 1) := by decide +kernel
theorem dX4_movesFor_19 : decode cX4_movesFor 19 = .ok (.iload_n 2, 1) := by decide +kernel
theorem dX4_movesFor_20 : decode cX4_movesFor 20 = .ok (.iconst 5, 1) := by decide +kernel
theorem dX4_movesFor_21 : decode cX4_movesFor 21 = .ok (.iload_n 3, 1) := by decide +kernel
theorem dX4_movesFor_22 : decode cX4_movesFor 22 = .ok (.imul, 1) := by decide +kernel
theorem dX4_movesFor_23 : decode cX4_movesFor 23 = .ok (.isub, 1) := by decide +kernel
theorem dX4_movesFor_24 : decode cX4_movesFor 24 = .ok (.invokevirtual 44, 3) := by decide +kernel
theorem dX4_movesFor_27 : decode cX4_movesFor 27 = .ok (.ireturn, 1) := by decide +kernel
set_option maxRecDepth 20000 in
theorem ggX4_moves_X4_isRod : GoodIn wsX4_moves wsX4_isRod := goodIn_r _ [4, 5, 6, 3, 7] (by decide +kernel) (by decide +kernel)
set_option maxRecDepth 20000 in
theorem gX4_moves_X4_isRod : GoodIn wsX4_moves (va_wsS RX4 84 yX4_isRod wsX4_isRod) := goodIn_app (goodIn_of _ (by decide +kernel)) ggX4_moves_X4_isRod
set_option maxRecDepth 20000 in
theorem ggX4_moves_X4_in : GoodIn wsX4_moves wsX4_in := goodIn_r _ [7] (by decide +kernel) (by decide +kernel)
set_option maxRecDepth 20000 in
theorem gX4_moves_X4_in : GoodIn wsX4_moves (va_wsS RX4 26 yX4_in wsX4_in) := goodIn_app (goodIn_of _ (by decide +kernel)) ggX4_moves_X4_in
set_option maxRecDepth 20000 in
theorem ggX4_moves_X4_holds : GoodIn wsX4_moves wsX4_holds := goodIn_r _ [11, 12, 36, 37, 38, 39, 40, 41, 42, 43] (by decide +kernel) (by decide +kernel)
set_option maxRecDepth 20000 in
theorem gX4_moves_X4_holds : GoodIn wsX4_moves (wsV RX4 87 RX4 yX4_holds wsX4_holds) := goodIn_app (goodIn_of _ (by decide +kernel)) ggX4_moves_X4_holds
set_option maxRecDepth 20000 in
theorem ggX4_moves_X4_movesFor : GoodIn wsX4_moves wsX4_movesFor := goodIn_r _ [16, 17, 18, 19, 3, 20, 5, 6, 7, 21, 22, 23, 24, 25, 26, 27, 28, 29, 30, 31, 32, 33, 34, 35, 36, 37, 38, 39, 40, 41, 42, 43] (by decide +kernel) (by decide +kernel)
set_option maxRecDepth 20000 in
theorem gX4_moves_X4_movesFor : GoodIn wsX4_moves (wsV RX4 139 RX4 yX4_movesFor wsX4_movesFor) := goodIn_app (goodIn_of _ (by decide +kernel)) ggX4_moves_X4_movesFor
theorem dX4_moves_0 : decode cX4_moves 0 = .ok (.aload_n 0, 1) := by decide +kernel
theorem dX4_moves_1 : decode cX4_moves 1 = .ok (.iload_n 1, 1) := by decide +kernel
theorem dX4_moves_2 : decode cX4_moves 2 = .ok (.invokestatic 84, 3) := by decide +kernel
theorem dX4_moves_5 : decode cX4_moves 5 = .ok (.ifCond .ne 7, 3) := by decide +kernel
theorem dX4_moves_8 : decode cX4_moves 8 = .ok (.iconst 1, 1) := by decide +kernel
theorem dX4_moves_9 : decode cX4_moves 9 = .ok (.goto 18, 3) := by decide +kernel
theorem dX4_moves_12 : decode cX4_moves 12 = .ok (.iload_n 2, 1) := by decide +kernel
theorem dX4_moves_13 : decode cX4_moves 13 = .ok (.iconst 0, 1) := by decide +kernel
theorem dX4_moves_14 : decode cX4_moves 14 = .ok (.bipush 15, 2) := by decide +kernel
theorem dX4_moves_16 : decode cX4_moves 16 = .ok (.invokestatic 26, 3) := by decide +kernel
theorem dX4_moves_19 : decode cX4_moves 19 = .ok (.ifCond .ne 7, 3) := by decide +kernel
theorem dX4_moves_22 : decode cX4_moves 22 = .ok (.iconst 2, 1) := by decide +kernel
theorem dX4_moves_23 : decode cX4_moves 23 = .ok (.goto 4, 3) := by decide +kernel
theorem dX4_moves_26 : decode cX4_moves 26 = .ok (.iconst 0, 1) := by decide +kernel
theorem dX4_moves_27 : decode cX4_moves 27 = .ok (.invokevirtual 87, 3) := by decide +kernel
theorem dX4_moves_30 : decode cX4_moves 30 = .ok (.ifCond .eq 12, 3) := by decide +kernel
theorem dX4_moves_33 : decode cX4_moves 33 = .ok (.aload_n 0, 1) := by decide +kernel
theorem dX4_moves_34 : decode cX4_moves 34 = .ok (.iload_n 1, 1) := by decide +kernel
theorem dX4_moves_35 : decode cX4_moves 35 = .ok (.iload_n 2, 1) := by decide +kernel
theorem dX4_moves_36 : decode cX4_moves 36 = .ok (.invokevirtual 139, 3) := by decide +kernel
theorem dX4_moves_39 : decode cX4_moves 39 = .ok (.goto 4, 3) := by decide +kernel
theorem dX4_moves_42 : decode cX4_moves 42 = .ok (.iconst 0, 1) := by decide +kernel
theorem dX4_moves_43 : decode cX4_moves 43 = .ok (.ireturn, 1) := by decide +kernel
set_option maxRecDepth 20000 in
theorem ggX4_ifAdded_X4_isRod : GoodIn wsX4_ifAdded wsX4_isRod := goodIn_r _ [4, 5, 6, 3, 7] (by decide +kernel) (by decide +kernel)
set_option maxRecDepth 20000 in
theorem gX4_ifAdded_X4_isRod : GoodIn wsX4_ifAdded (va_wsS RX4 84 yX4_isRod wsX4_isRod) := goodIn_app (goodIn_of _ (by decide +kernel)) ggX4_ifAdded_X4_isRod
set_option maxRecDepth 20000 in
theorem ggX4_ifAdded_X4_in : GoodIn wsX4_ifAdded wsX4_in := goodIn_r _ [7] (by decide +kernel) (by decide +kernel)
set_option maxRecDepth 20000 in
theorem gX4_ifAdded_X4_in : GoodIn wsX4_ifAdded (va_wsS RX4 26 yX4_in wsX4_in) := goodIn_app (goodIn_of _ (by decide +kernel)) ggX4_ifAdded_X4_in
set_option maxRecDepth 20000 in
theorem ggX4_ifAdded_X4_holds : GoodIn wsX4_ifAdded wsX4_holds := goodIn_r _ [11, 12, 85, 86, 87, 88, 89, 90, 91, 92] (by decide +kernel) (by decide +kernel)
set_option maxRecDepth 20000 in
theorem gX4_ifAdded_X4_holds : GoodIn wsX4_ifAdded (wsV RX4 87 RX4 yX4_holds wsX4_holds) := goodIn_app (goodIn_of _ (by decide +kernel)) ggX4_ifAdded_X4_holds
set_option maxRecDepth 20000 in
theorem ggX4_ifAdded_X4_takes : GoodIn wsX4_ifAdded wsX4_takes := goodIn_r _ [16, 17, 18, 19, 3, 20, 21, 22, 23, 24, 25, 26, 27, 28, 29, 30, 31, 32, 33, 34, 35, 36, 37, 38, 39, 40, 41, 42, 43, 44, 45, 46, 47, 48, 49, 5, 6, 7, 50, 51, 52, 53, 54, 55, 56, 57, 58, 59, 60, 61, 62, 63, 64, 65, 66, 67, 68, 69, 70, 71, 72, 73, 74, 75, 76, 77, 78, 79, 80, 81, 82, 83, 84, 85, 86, 87, 88, 89, 90, 91, 92] (by decide +kernel) (by decide +kernel)
set_option maxRecDepth 20000 in
theorem gX4_ifAdded_X4_takes : GoodIn wsX4_ifAdded (wsV RX4 103 RX4 yX4_takes wsX4_takes) := goodIn_app (goodIn_of _ (by decide +kernel)) ggX4_ifAdded_X4_takes
theorem dX4_ifAdded_0 : decode cX4_ifAdded 0 = .ok (.aload_n 0, 1) := by decide +kernel
theorem dX4_ifAdded_1 : decode cX4_ifAdded 1 = .ok (.iload_n 1, 1) := by decide +kernel
theorem dX4_ifAdded_2 : decode cX4_ifAdded 2 = .ok (.invokestatic 84, 3) := by decide +kernel
theorem dX4_ifAdded_5 : decode cX4_ifAdded 5 = .ok (.ifCond .ne 7, 3) := by decide +kernel
theorem dX4_ifAdded_8 : decode cX4_ifAdded 8 = .ok (.iconst 1, 1) := by decide +kernel
theorem dX4_ifAdded_9 : decode cX4_ifAdded 9 = .ok (.goto 19, 3) := by decide +kernel
theorem dX4_ifAdded_12 : decode cX4_ifAdded 12 = .ok (.iload_n 2, 1) := by decide +kernel
theorem dX4_ifAdded_13 : decode cX4_ifAdded 13 = .ok (.bipush (-9), 2) := by decide +kernel
theorem dX4_ifAdded_15 : decode cX4_ifAdded 15 = .ok (.bipush 9, 2) := by decide +kernel
theorem dX4_ifAdded_17 : decode cX4_ifAdded 17 = .ok (.invokestatic 26, 3) := by decide +kernel
theorem dX4_ifAdded_20 : decode cX4_ifAdded 20 = .ok (.ifCond .ne 7, 3) := by decide +kernel
theorem dX4_ifAdded_23 : decode cX4_ifAdded 23 = .ok (.iconst 2, 1) := by decide +kernel
theorem dX4_ifAdded_24 : decode cX4_ifAdded 24 = .ok (.goto 4, 3) := by decide +kernel
theorem dX4_ifAdded_27 : decode cX4_ifAdded 27 = .ok (.iconst 0, 1) := by decide +kernel
theorem dX4_ifAdded_28 : decode cX4_ifAdded 28 = .ok (.invokevirtual 87, 3) := by decide +kernel
theorem dX4_ifAdded_31 : decode cX4_ifAdded 31 = .ok (.ifCond .eq 13, 3) := by decide +kernel
theorem dX4_ifAdded_34 : decode cX4_ifAdded 34 = .ok (.aload_n 0, 1) := by decide +kernel
theorem dX4_ifAdded_35 : decode cX4_ifAdded 35 = .ok (.iconst 0, 1) := by decide +kernel
theorem dX4_ifAdded_36 : decode cX4_ifAdded 36 = .ok (.iload_n 1, 1) := by decide +kernel
theorem dX4_ifAdded_37 : decode cX4_ifAdded 37 = .ok (.iload_n 2, 1) := by decide +kernel
theorem dX4_ifAdded_38 : decode cX4_ifAdded 38 = .ok (.invokevirtual 103, 3) := by decide +kernel
theorem dX4_ifAdded_41 : decode cX4_ifAdded 41 = .ok (.goto 4, 3) := by decide +kernel
theorem dX4_ifAdded_44 : decode cX4_ifAdded 44 = .ok (.iconst 0, 1) := by decide +kernel
theorem dX4_ifAdded_45 : decode cX4_ifAdded 45 = .ok (.ireturn, 1) := by decide +kernel
set_option maxRecDepth 20000 in
theorem ggX4_showing_X4_movesFor : GoodIn wsX4_showing wsX4_movesFor := goodIn_r _ [5, 6, 7, 8, 4, 9, 10, 11, 12, 13, 14, 15, 16, 17, 18, 19, 20, 21, 22, 23, 24, 25, 26, 27, 28, 29, 30, 31, 32, 33, 34, 35] (by decide +kernel) (by decide +kernel)
set_option maxRecDepth 20000 in
theorem gX4_showing_X4_movesFor : GoodIn wsX4_showing (wsV RX4 139 RX4 yX4_movesFor wsX4_movesFor) := goodIn_app (goodIn_of _ (by decide +kernel)) ggX4_showing_X4_movesFor
theorem dX4_showing_0 : decode cX4_showing 0 = .ok (.iconst 0, 1) := by decide +kernel
theorem dX4_showing_1 : decode cX4_showing 1 = .ok (.istore_n 2, 1) := by decide +kernel
theorem dX4_showing_2 : decode cX4_showing 2 = .ok (.iload_n 1, 1) := by decide +kernel
theorem dX4_showing_3 : decode cX4_showing 3 = .ok (.istore_n 3, 1) := by decide +kernel
theorem dX4_showing_4 : decode cX4_showing 4 = .ok (.iconst 1, 1) := by decide +kernel
theorem dX4_showing_5 : decode cX4_showing 5 = .ok (.istore 4, 2) := by decide +kernel
theorem dX4_showing_7 : decode cX4_showing 7 = .ok (.iconst 0, 1) := by decide +kernel
theorem dX4_showing_8 : decode cX4_showing 8 = .ok (.istore 5, 2) := by decide +kernel
theorem dX4_showing_10 : decode cX4_showing 10 = .ok (.iload 5, 2) := by decide +kernel
theorem dX4_showing_12 : decode cX4_showing 12 = .ok (.bipush 9, 2) := by decide +kernel
theorem dX4_showing_14 : decode cX4_showing 14 = .ok (.if_icmp .ge 49, 3) := by decide +kernel
theorem dX4_showing_17 : decode cX4_showing 17 = .ok (.aload_n 0, 1) := by decide +kernel
theorem dX4_showing_18 : decode cX4_showing 18 = .ok (.iload 5, 2) := by decide +kernel
theorem dX4_showing_20 : decode cX4_showing 20 = .ok (.iload_n 3, 1) := by decide +kernel
theorem dX4_showing_21 : decode cX4_showing 21 = .ok (.bipush 10, 2) := by decide +kernel
theorem dX4_showing_23 : decode cX4_showing 23 = .ok (.irem, 1) := by decide +kernel
theorem dX4_showing_24 : decode cX4_showing 24 = .ok (.invokevirtual 139, 3) := by decide +kernel
theorem dX4_showing_27 : decode cX4_showing 27 = .ok (.istore 6, 2) := by decide +kernel
theorem dX4_showing_29 : decode cX4_showing 29 = .ok (.iload 4, 2) := by decide +kernel
theorem dX4_showing_31 : decode cX4_showing 31 = .ok (.ifCond .eq 13, 3) := by decide +kernel
theorem dX4_showing_34 : decode cX4_showing 34 = .ok (.iload 6, 2) := by decide +kernel
theorem dX4_showing_36 : decode cX4_showing 36 = .ok (.iconst (-1), 1) := by decide +kernel
theorem dX4_showing_37 : decode cX4_showing 37 = .ok (.if_icmp .eq 7, 3) := by decide +kernel
theorem dX4_showing_40 : decode cX4_showing 40 = .ok (.iconst 1, 1) := by decide +kernel
theorem dX4_showing_41 : decode cX4_showing 41 = .ok (.goto 4, 3) := by decide +kernel
theorem dX4_showing_44 : decode cX4_showing 44 = .ok (.iconst 0, 1) := by decide +kernel
theorem dX4_showing_45 : decode cX4_showing 45 = .ok (.istore 4, 2) := by decide +kernel
theorem dX4_showing_47 : decode cX4_showing 47 = .ok (.iload_n 2, 1) := by decide +kernel
theorem dX4_showing_48 : decode cX4_showing 48 = .ok (.iload 6, 2) := by decide +kernel
theorem dX4_showing_50 : decode cX4_showing 50 = .ok (.iadd, 1) := by decide +kernel
theorem dX4_showing_51 : decode cX4_showing 51 = .ok (.istore_n 2, 1) := by decide +kernel
theorem dX4_showing_52 : decode cX4_showing 52 = .ok (.iload_n 3, 1) := by decide +kernel
theorem dX4_showing_53 : decode cX4_showing 53 = .ok (.bipush 10, 2) := by decide +kernel
theorem dX4_showing_55 : decode cX4_showing 55 = .ok (.idiv, 1) := by decide +kernel
theorem dX4_showing_56 : decode cX4_showing 56 = .ok (.istore_n 3, 1) := by decide +kernel
theorem dX4_showing_57 : decode cX4_showing 57 = .ok (.iinc 5 1, 3) := by decide +kernel
theorem dX4_showing_60 : decode cX4_showing 60 = .ok (.goto (-50), 3) := by decide +kernel
theorem dX4_showing_63 : decode cX4_showing 63 = .ok (.iload 4, 2) := by decide +kernel
theorem dX4_showing_65 : decode cX4_showing 65 = .ok (.ifCond .eq 7, 3) := by decide +kernel
theorem dX4_showing_68 : decode cX4_showing 68 = .ok (.iload_n 2, 1) := by decide +kernel
theorem dX4_showing_69 : decode cX4_showing 69 = .ok (.goto 4, 3) := by decide +kernel
theorem dX4_showing_72 : decode cX4_showing 72 = .ok (.iconst (-1), 1) := by decide +kernel
theorem dX4_showing_73 : decode cX4_showing 73 = .ok (.ireturn, 1) := by decide +kernel
set_option maxRecDepth 20000 in
theorem ggX4_toShow_X4_in : GoodIn wsX4_toShow wsX4_in := goodIn_r _ [5] (by decide +kernel) (by decide +kernel)
set_option maxRecDepth 20000 in
theorem gX4_toShow_X4_in : GoodIn wsX4_toShow (va_wsS RX4 26 yX4_in wsX4_in) := goodIn_app (goodIn_of _ (by decide +kernel)) ggX4_toShow_X4_in
set_option maxRecDepth 20000 in
theorem ggX4_toShow_X4_holds : GoodIn wsX4_toShow wsX4_holds := goodIn_r _ [9, 10, 38, 39, 40, 41, 42, 43, 44, 45] (by decide +kernel) (by decide +kernel)
set_option maxRecDepth 20000 in
theorem gX4_toShow_X4_holds : GoodIn wsX4_toShow (wsV RX4 87 RX4 yX4_holds wsX4_holds) := goodIn_app (goodIn_of _ (by decide +kernel)) ggX4_toShow_X4_holds
set_option maxRecDepth 20000 in
theorem ggX4_toShow_X4_showing : GoodIn wsX4_toShow wsX4_showing := goodIn_r _ [14, 15, 16, 17, 4, 18, 19, 20, 21, 22, 2, 3, 5, 23, 24, 25, 26, 27, 28, 29, 30, 31, 32, 33, 34, 35, 36, 37, 38, 39, 40, 41, 42, 43, 44, 45] (by decide +kernel) (by decide +kernel)
set_option maxRecDepth 20000 in
theorem gX4_toShow_X4_showing : GoodIn wsX4_toShow (wsV RX4 143 RX4 yX4_showing wsX4_showing) := goodIn_app (goodIn_of _ (by decide +kernel)) ggX4_toShow_X4_showing
theorem dX4_toShow_0 : decode cX4_toShow 0 = .ok (.aload_n 0, 1) := by decide +kernel
theorem dX4_toShow_1 : decode cX4_toShow 1 = .ok (.iload_n 1, 1) := by decide +kernel
theorem dX4_toShow_2 : decode cX4_toShow 2 = .ok (.iconst 0, 1) := by decide +kernel
theorem dX4_toShow_3 : decode cX4_toShow 3 = .ok (.ldc 142, 2) := by decide +kernel
theorem dX4_toShow_5 : decode cX4_toShow 5 = .ok (.invokestatic 26, 3) := by decide +kernel
theorem dX4_toShow_8 : decode cX4_toShow 8 = .ok (.ifCond .eq 7, 3) := by decide +kernel
theorem dX4_toShow_11 : decode cX4_toShow 11 = .ok (.iconst 0, 1) := by decide +kernel
theorem dX4_toShow_12 : decode cX4_toShow 12 = .ok (.goto 4, 3) := by decide +kernel
theorem dX4_toShow_15 : decode cX4_toShow 15 = .ok (.iconst 1, 1) := by decide +kernel
theorem dX4_toShow_16 : decode cX4_toShow 16 = .ok (.invokevirtual 87, 3) := by decide +kernel
theorem dX4_toShow_19 : decode cX4_toShow 19 = .ok (.ifCond .eq 11, 3) := by decide +kernel
theorem dX4_toShow_22 : decode cX4_toShow 22 = .ok (.aload_n 0, 1) := by decide +kernel
theorem dX4_toShow_23 : decode cX4_toShow 23 = .ok (.iload_n 1, 1) := by decide +kernel
theorem dX4_toShow_24 : decode cX4_toShow 24 = .ok (.invokevirtual 143, 3) := by decide +kernel
theorem dX4_toShow_27 : decode cX4_toShow 27 = .ok (.goto 4, 3) := by decide +kernel
theorem dX4_toShow_30 : decode cX4_toShow 30 = .ok (.iconst 0, 1) := by decide +kernel
theorem dX4_toShow_31 : decode cX4_toShow 31 = .ok (.ireturn, 1) := by decide +kernel
set_option maxRecDepth 20000 in
theorem ggX4_cheapest_X4_of : GoodIn wsX4_cheapest wsX4_of := goodIn_r _ [5] (by decide +kernel) (by decide +kernel)
set_option maxRecDepth 20000 in
theorem gX4_cheapest_X4_of : GoodIn wsX4_cheapest (va_wsS RX4 33 yX4_of wsX4_of) := goodIn_app (goodIn_of _ (by decide +kernel)) ggX4_cheapest_X4_of
set_option maxRecDepth 20000 in
theorem ggX4_cheapest_X4_takes : GoodIn wsX4_cheapest wsX4_takes := goodIn_r _ [9, 10, 11, 12, 4, 13, 1, 2, 3, 5, 14, 15, 16, 17, 18, 19, 20, 21, 22, 23, 24, 25, 26, 27, 28, 29, 30, 31, 32, 33, 34, 35, 36, 37, 38, 39, 40, 41, 42, 43, 44, 45, 46, 47, 48, 49, 50, 51, 52, 53, 54, 55, 56, 57, 58, 59, 60, 61, 62, 63, 64, 65, 66, 67, 68, 69, 70, 71, 72, 73, 74, 75, 76, 77, 78, 79, 80, 81, 82, 83, 84] (by decide +kernel) (by decide +kernel)
set_option maxRecDepth 20000 in
theorem gX4_cheapest_X4_takes : GoodIn wsX4_cheapest (wsV RX4 103 RX4 yX4_takes wsX4_takes) := goodIn_app (goodIn_of _ (by decide +kernel)) ggX4_cheapest_X4_takes
theorem dX4_cheapest_0 : decode cX4_cheapest 0 = .ok (.iconst (-1), 1) := by decide +kernel
theorem dX4_cheapest_1 : decode cX4_cheapest 1 = .ok (.istore_n 1, 1) := by decide +kernel
theorem dX4_cheapest_2 : decode cX4_cheapest 2 = .ok (.iconst 0, 1) := by decide +kernel
end
section
theorem dX4_cheapest_3 : decode cX4_cheapest 3 = .ok (.istore_n 2, 1) := by decide +kernel
theorem dX4_cheapest_4 : decode cX4_cheapest 4 = .ok (.iconst 0, 1) := by decide +kernel
theorem dX4_cheapest_5 : decode cX4_cheapest 5 = .ok (.istore_n 3, 1) := by decide +kernel
theorem dX4_cheapest_6 : decode cX4_cheapest 6 = .ok (.iload_n 3, 1) := by decide +kernel
theorem dX4_cheapest_7 : decode cX4_cheapest 7 = .ok (.bipush 9, 2) := by decide +kernel
theorem dX4_cheapest_9 : decode cX4_cheapest 9 = .ok (.if_icmp .ge 82, 3) := by decide +kernel
theorem dX4_cheapest_12 : decode cX4_cheapest 12 = .ok (.aload_n 0, 1) := by decide +kernel
theorem dX4_cheapest_13 : decode cX4_cheapest 13 = .ok (.getfield 7, 3) := by decide +kernel
theorem dX4_cheapest_16 : decode cX4_cheapest 16 = .ok (.iload_n 3, 1) := by decide +kernel
theorem dX4_cheapest_17 : decode cX4_cheapest 17 = .ok (.iconst 2, 1) := by decide +kernel
theorem dX4_cheapest_18 : decode cX4_cheapest 18 = .ok (.invokestatic 33, 3) := by decide +kernel
theorem dX4_cheapest_21 : decode cX4_cheapest 21 = .ok (.iaload, 1) := by decide +kernel
theorem dX4_cheapest_22 : decode cX4_cheapest 22 = .ok (.ifCond .ne 7, 3) := by decide +kernel
theorem dX4_cheapest_25 : decode cX4_cheapest 25 = .ok (.iconst (-1), 1) := by decide +kernel
theorem dX4_cheapest_26 : decode cX4_cheapest 26 = .ok (.goto 10, 3) := by decide +kernel
theorem dX4_cheapest_29 : decode cX4_cheapest 29 = .ok (.aload_n 0, 1) := by decide +kernel
theorem dX4_cheapest_30 : decode cX4_cheapest 30 = .ok (.iconst 1, 1) := by decide +kernel
theorem dX4_cheapest_31 : decode cX4_cheapest 31 = .ok (.iload_n 3, 1) := by decide +kernel
theorem dX4_cheapest_32 : decode cX4_cheapest 32 = .ok (.iconst 0, 1) := by decide +kernel
theorem dX4_cheapest_33 : decode cX4_cheapest 33 = .ok (.invokevirtual 103, 3) := by decide +kernel
theorem dX4_cheapest_36 : decode cX4_cheapest 36 = .ok (.istore 4, 2) := by decide +kernel
theorem dX4_cheapest_38 : decode cX4_cheapest 38 = .ok (.iload 4, 2) := by decide +kernel
theorem dX4_cheapest_40 : decode cX4_cheapest 40 = .ok (.iconst (-1), 1) := by decide +kernel
theorem dX4_cheapest_41 : decode cX4_cheapest 41 = .ok (.if_icmp .eq 18, 3) := by decide +kernel
theorem dX4_cheapest_44 : decode cX4_cheapest 44 = .ok (.iload_n 1, 1) := by decide +kernel
theorem dX4_cheapest_45 : decode cX4_cheapest 45 = .ok (.iconst (-1), 1) := by decide +kernel
theorem dX4_cheapest_46 : decode cX4_cheapest 46 = .ok (.if_icmp .eq 9, 3) := by decide +kernel
theorem dX4_cheapest_49 : decode cX4_cheapest 49 = .ok (.iload 4, 2) := by decide +kernel
theorem dX4_cheapest_51 : decode cX4_cheapest 51 = .ok (.iload_n 2, 1) := by decide +kernel
theorem dX4_cheapest_52 : decode cX4_cheapest 52 = .ok (.if_icmp .ge 7, 3) := by decide +kernel
theorem dX4_cheapest_55 : decode cX4_cheapest 55 = .ok (.iconst 1, 1) := by decide +kernel
theorem dX4_cheapest_56 : decode cX4_cheapest 56 = .ok (.goto 4, 3) := by decide +kernel
theorem dX4_cheapest_59 : decode cX4_cheapest 59 = .ok (.iconst 0, 1) := by decide +kernel
theorem dX4_cheapest_60 : decode cX4_cheapest 60 = .ok (.istore 5, 2) := by decide +kernel
theorem dX4_cheapest_62 : decode cX4_cheapest 62 = .ok (.iload 5, 2) := by decide +kernel
theorem dX4_cheapest_64 : decode cX4_cheapest 64 = .ok (.ifCond .eq 7, 3) := by decide +kernel
theorem dX4_cheapest_67 : decode cX4_cheapest 67 = .ok (.iload_n 3, 1) := by decide +kernel
theorem dX4_cheapest_68 : decode cX4_cheapest 68 = .ok (.goto 4, 3) := by decide +kernel
theorem dX4_cheapest_71 : decode cX4_cheapest 71 = .ok (.iload_n 1, 1) := by decide +kernel
theorem dX4_cheapest_72 : decode cX4_cheapest 72 = .ok (.istore_n 1, 1) := by decide +kernel
theorem dX4_cheapest_73 : decode cX4_cheapest 73 = .ok (.iload 5, 2) := by decide +kernel
theorem dX4_cheapest_75 : decode cX4_cheapest 75 = .ok (.ifCond .eq 8, 3) := by decide +kernel
theorem dX4_cheapest_78 : decode cX4_cheapest 78 = .ok (.iload 4, 2) := by decide +kernel
theorem dX4_cheapest_80 : decode cX4_cheapest 80 = .ok (.goto 4, 3) := by decide +kernel
theorem dX4_cheapest_83 : decode cX4_cheapest 83 = .ok (.iload_n 2, 1) := by decide +kernel
theorem dX4_cheapest_84 : decode cX4_cheapest 84 = .ok (.istore_n 2, 1) := by decide +kernel
theorem dX4_cheapest_85 : decode cX4_cheapest 85 = .ok (.iinc 3 1, 3) := by decide +kernel
theorem dX4_cheapest_88 : decode cX4_cheapest 88 = .ok (.goto (-82), 3) := by decide +kernel
theorem dX4_cheapest_91 : decode cX4_cheapest 91 = .ok (.iload_n 1, 1) := by decide +kernel
theorem dX4_cheapest_92 : decode cX4_cheapest 92 = .ok (.ireturn, 1) := by decide +kernel
set_option maxRecDepth 20000 in
theorem ggX4_cheapestLoan_X4_cheapest : GoodIn wsX4_cheapestLoan wsX4_cheapest := goodIn_r _ [6, 7, 8, 9, 5, 10, 11, 12, 13, 14, 15, 16, 17, 18, 19, 20, 21, 22, 23, 24, 25, 26, 27, 28, 29, 30, 31, 32, 33, 34, 35, 36, 37, 38, 39, 40, 41, 42, 43, 44, 45, 46, 47, 48, 49, 50, 51, 52, 53, 54, 55, 56, 57, 58, 59, 60, 61, 62, 63, 64, 65, 66, 67, 68, 69, 70, 71, 72, 73, 74, 75, 76, 77, 78, 79, 80, 81, 82, 83, 84, 85, 86, 87, 88, 89] (by decide +kernel) (by decide +kernel)
set_option maxRecDepth 20000 in
theorem gX4_cheapestLoan_X4_cheapest : GoodIn wsX4_cheapestLoan (wsV RX4 146 RX4 yX4_cheapest wsX4_cheapest) := goodIn_app (goodIn_of _ (by decide +kernel)) ggX4_cheapestLoan_X4_cheapest
theorem dX4_cheapestLoan_0 : decode cX4_cheapestLoan 0 = .ok (.aload_n 0, 1) := by decide +kernel
theorem dX4_cheapestLoan_1 : decode cX4_cheapestLoan 1 = .ok (.iconst 0, 1) := by decide +kernel
theorem dX4_cheapestLoan_2 : decode cX4_cheapestLoan 2 = .ok (.putfield 22, 3) := by decide +kernel
theorem dX4_cheapestLoan_5 : decode cX4_cheapestLoan 5 = .ok (.aload_n 0, 1) := by decide +kernel
theorem dX4_cheapestLoan_6 : decode cX4_cheapestLoan 6 = .ok (.invokevirtual 146, 3) := by decide +kernel
theorem dX4_cheapestLoan_9 : decode cX4_cheapestLoan 9 = .ok (.ireturn, 1) := by decide +kernel
set_option maxRecDepth 20000 in
theorem ggX4_loose_X4_numbers : GoodIn wsX4_loose wsX4_numbers := goodIn_r _ [6, 7, 8, 9, 5, 10, 11, 12, 13, 14, 15, 16, 17, 18, 19, 20, 21, 22, 23, 24, 25, 26, 27, 28, 29, 30, 31, 32, 33, 34, 35, 36, 37, 38, 39, 40] (by decide +kernel) (by decide +kernel)
set_option maxRecDepth 20000 in
theorem gX4_loose_X4_numbers : GoodIn wsX4_loose (wsV RX4 121 RX4 yX4_numbers wsX4_numbers) := goodIn_app (goodIn_of _ (by decide +kernel)) ggX4_loose_X4_numbers
theorem dX4_loose_0 : decode cX4_loose 0 = .ok (.iconst 0, 1) := by decide +kernel
theorem dX4_loose_1 : decode cX4_loose 1 = .ok (.istore_n 1, 1) := by decide +kernel
theorem dX4_loose_2 : decode cX4_loose 2 = .ok (.iconst 0, 1) := by decide +kernel
theorem dX4_loose_3 : decode cX4_loose 3 = .ok (.istore_n 2, 1) := by decide +kernel
theorem dX4_loose_4 : decode cX4_loose 4 = .ok (.iload_n 2, 1) := by decide +kernel
theorem dX4_loose_5 : decode cX4_loose 5 = .ok (.bipush 9, 2) := by decide +kernel
theorem dX4_loose_7 : decode cX4_loose 7 = .ok (.if_icmp .ge 17, 3) := by decide +kernel
theorem dX4_loose_10 : decode cX4_loose 10 = .ok (.iload_n 1, 1) := by decide +kernel
theorem dX4_loose_11 : decode cX4_loose 11 = .ok (.aload_n 0, 1) := by decide +kernel
theorem dX4_loose_12 : decode cX4_loose 12 = .ok (.iload_n 2, 1) := by decide +kernel
theorem dX4_loose_13 : decode cX4_loose 13 = .ok (.invokevirtual 121, 3) := by decide +kernel
theorem dX4_loose_16 : decode cX4_loose 16 = .ok (.iadd, 1) := by decide +kernel
theorem dX4_loose_17 : decode cX4_loose 17 = .ok (.istore_n 1, 1) := by decide +kernel
theorem dX4_loose_18 : decode cX4_loose 18 = .ok (.iinc 2 1, 3) := by decide +kernel
theorem dX4_loose_21 : decode cX4_loose 21 = .ok (.goto (-17), 3) := by decide +kernel
theorem dX4_loose_24 : decode cX4_loose 24 = .ok (.iload_n 1, 1) := by decide +kernel
theorem dX4_loose_25 : decode cX4_loose 25 = .ok (.i2d, 1) := by decide +kernel
theorem dX4_loose_26 : decode cX4_loose 26 = .ok (.ldc2_w 149, 3) := by decide +kernel
theorem dX4_loose_29 : decode cX4_loose 29 = .ok (.ddiv, 1) := by decide +kernel
theorem dX4_loose_30 : decode cX4_loose 30 = .ok (.dreturn, 1) := by decide +kernel
set_option maxRecDepth 20000 in
theorem ggX4_looseness_X4_loose : GoodIn wsX4_looseness wsX4_loose := goodIn_r _ [6, 7, 8, 9, 10, 5, 11, 12, 13, 14, 15, 16, 17, 18, 19, 20, 21, 22, 23, 24, 25, 26, 27, 28, 29, 30, 31, 32, 33, 34, 35, 36, 37, 38, 39, 40, 41, 42, 43, 44, 45] (by decide +kernel) (by decide +kernel)
set_option maxRecDepth 20000 in
theorem gX4_looseness_X4_loose : GoodIn wsX4_looseness (wsV RX4 151 RX4 yX4_loose wsX4_loose) := goodIn_app (goodIn_of _ (by decide +kernel)) ggX4_looseness_X4_loose
theorem dX4_looseness_0 : decode cX4_looseness 0 = .ok (.aload_n 0, 1) := by decide +kernel
theorem dX4_looseness_1 : decode cX4_looseness 1 = .ok (.iconst 0, 1) := by decide +kernel
theorem dX4_looseness_2 : decode cX4_looseness 2 = .ok (.putfield 22, 3) := by decide +kernel
theorem dX4_looseness_5 : decode cX4_looseness 5 = .ok (.aload_n 0, 1) := by decide +kernel
theorem dX4_looseness_6 : decode cX4_looseness 6 = .ok (.invokevirtual 151, 3) := by decide +kernel
theorem dX4_looseness_9 : decode cX4_looseness 9 = .ok (.dreturn, 1) := by decide +kernel
theorem dX4_bitsOf_0 : decode cX4_bitsOf 0 = .ok (.dload_n 0, 1) := by decide +kernel
theorem dX4_bitsOf_1 : decode cX4_bitsOf 1 = .ok (.dconst 0, 1) := by decide +kernel
theorem dX4_bitsOf_2 : decode cX4_bitsOf 2 = .ok (.dcmp .l, 1) := by decide +kernel
theorem dX4_bitsOf_3 : decode cX4_bitsOf 3 = .ok (.ifCond .ne 5, 3) := by decide +kernel
theorem dX4_bitsOf_6 : decode cX4_bitsOf 6 = .ok (.lconst 0, 1) := by decide +kernel
theorem dX4_bitsOf_7 : decode cX4_bitsOf 7 = .ok (.lreturn, 1) := by decide +kernel
theorem dX4_bitsOf_8 : decode cX4_bitsOf 8 = .ok (.ldc2_w 155, 3) := by decide +kernel
theorem dX4_bitsOf_11 : decode cX4_bitsOf 11 = .ok (.lstore_n 2, 1) := by decide +kernel
theorem dX4_bitsOf_12 : decode cX4_bitsOf 12 = .ok (.dload_n 0, 1) := by decide +kernel
theorem dX4_bitsOf_13 : decode cX4_bitsOf 13 = .ok (.dstore 4, 2) := by decide +kernel
theorem dX4_bitsOf_15 : decode cX4_bitsOf 15 = .ok (.dload 4, 2) := by decide +kernel
theorem dX4_bitsOf_17 : decode cX4_bitsOf 17 = .ok (.dconst 1, 1) := by decide +kernel
theorem dX4_bitsOf_18 : decode cX4_bitsOf 18 = .ok (.dcmp .g, 1) := by decide +kernel
theorem dX4_bitsOf_19 : decode cX4_bitsOf 19 = .ok (.ifCond .ge 18, 3) := by decide +kernel
theorem dX4_bitsOf_22 : decode cX4_bitsOf 22 = .ok (.dload 4, 2) := by decide +kernel
theorem dX4_bitsOf_24 : decode cX4_bitsOf 24 = .ok (.ldc2_w 157, 3) := by decide +kernel
theorem dX4_bitsOf_27 : decode cX4_bitsOf 27 = .ok (.dmul, 1) := by decide +kernel
theorem dX4_bitsOf_28 : decode cX4_bitsOf 28 = .ok (.dstore 4, 2) := by decide +kernel
theorem dX4_bitsOf_30 : decode cX4_bitsOf 30 = .ok (.lload_n 2, 1) := by decide +kernel
theorem dX4_bitsOf_31 : decode cX4_bitsOf 31 = .ok (.lconst 1, 1) := by decide +kernel
theorem dX4_bitsOf_32 : decode cX4_bitsOf 32 = .ok (.lsub, 1) := by decide +kernel
theorem dX4_bitsOf_33 : decode cX4_bitsOf 33 = .ok (.lstore_n 2, 1) := by decide +kernel
theorem dX4_bitsOf_34 : decode cX4_bitsOf 34 = .ok (.goto (-19), 3) := by decide +kernel
theorem dX4_bitsOf_37 : decode cX4_bitsOf 37 = .ok (.lload_n 2, 1) := by decide +kernel
theorem dX4_bitsOf_38 : decode cX4_bitsOf 38 = .ok (.ldc2_w 159, 3) := by decide +kernel
theorem dX4_bitsOf_41 : decode cX4_bitsOf 41 = .ok (.lmul, 1) := by decide +kernel
theorem dX4_bitsOf_42 : decode cX4_bitsOf 42 = .ok (.dload 4, 2) := by decide +kernel
theorem dX4_bitsOf_44 : decode cX4_bitsOf 44 = .ok (.dconst 1, 1) := by decide +kernel
theorem dX4_bitsOf_45 : decode cX4_bitsOf 45 = .ok (.dsub, 1) := by decide +kernel
theorem dX4_bitsOf_46 : decode cX4_bitsOf 46 = .ok (.ldc2_w 161, 3) := by decide +kernel
theorem dX4_bitsOf_49 : decode cX4_bitsOf 49 = .ok (.dmul, 1) := by decide +kernel
theorem dX4_bitsOf_50 : decode cX4_bitsOf 50 = .ok (.d2l, 1) := by decide +kernel
theorem dX4_bitsOf_51 : decode cX4_bitsOf 51 = .ok (.ladd, 1) := by decide +kernel
theorem dX4_bitsOf_52 : decode cX4_bitsOf 52 = .ok (.lreturn, 1) := by decide +kernel
theorem dX4_digestOne_0 : decode cX4_digestOne 0 = .ok (.aload_n 0, 1) := by decide +kernel
theorem dX4_digestOne_1 : decode cX4_digestOne 1 = .ok (.ldc2_w 163, 3) := by decide +kernel
theorem dX4_digestOne_4 : decode cX4_digestOne 4 = .ok (.aload_n 0, 1) := by decide +kernel
theorem dX4_digestOne_5 : decode cX4_digestOne 5 = .ok (.getfield 165, 3) := by decide +kernel
theorem dX4_digestOne_8 : decode cX4_digestOne 8 = .ok (.lmul, 1) := by decide +kernel
theorem dX4_digestOne_9 : decode cX4_digestOne 9 = .ok (.lload_n 1, 1) := by decide +kernel
theorem dX4_digestOne_10 : decode cX4_digestOne 10 = .ok (.ladd, 1) := by decide +kernel
theorem dX4_digestOne_11 : decode cX4_digestOne 11 = .ok (.putfield 165, 3) := by decide +kernel
theorem dX4_digestOne_14 : decode cX4_digestOne 14 = .ok (.return_, 1) := by decide +kernel
set_option maxRecDepth 20000 in
theorem ggX4_digestRod_X4_told : GoodIn wsX4_digestRod wsX4_told := goodIn_r _ [5, 6, 7, 8, 4, 9, 10, 11, 12, 13, 14, 15, 16, 17, 18, 19, 20, 21, 22, 23, 24, 25, 26, 27, 28, 29, 30, 31, 32, 33, 34, 35, 36, 37, 38, 39, 95, 96, 97, 98, 99, 100, 101, 102] (by decide +kernel) (by decide +kernel)
set_option maxRecDepth 20000 in
theorem gX4_digestRod_X4_told : GoodIn wsX4_digestRod (wsV RX4 124 RX4 yX4_told wsX4_told) := goodIn_app (goodIn_of _ (by decide +kernel)) ggX4_digestRod_X4_told
set_option maxRecDepth 20000 in
theorem ggX4_digestRod_X4_digestOne : GoodIn wsX4_digestRod wsX4_digestOne := goodIn_r _ [43, 44, 45, 95, 96, 97, 98, 99, 100, 101, 102] (by decide +kernel) (by decide +kernel)
set_option maxRecDepth 20000 in
theorem gX4_digestRod_X4_digestOne : GoodIn wsX4_digestRod (wsV RX4 169 RX4 yX4_digestOne wsX4_digestOne) := goodIn_app (goodIn_of _ (by decide +kernel)) ggX4_digestRod_X4_digestOne
set_option maxRecDepth 20000 in
theorem ggX4_digestRod_X4_movesFor : GoodIn wsX4_digestRod wsX4_movesFor := goodIn_r _ [49, 22, 23, 24, 4, 25, 26, 27, 28, 29, 30, 31, 32, 6, 7, 8, 9, 33, 34, 35, 36, 37, 38, 39, 95, 96, 97, 98, 99, 100, 101, 102] (by decide +kernel) (by decide +kernel)
set_option maxRecDepth 20000 in
theorem gX4_digestRod_X4_movesFor : GoodIn wsX4_digestRod (wsV RX4 139 RX4 yX4_movesFor wsX4_movesFor) := goodIn_app (goodIn_of _ (by decide +kernel)) ggX4_digestRod_X4_movesFor
set_option maxRecDepth 20000 in
theorem ggX4_digestRod_X4_takes : GoodIn wsX4_digestRod wsX4_takes := goodIn_r _ [53, 54, 55, 56, 4, 57, 6, 7, 8, 9, 58, 59, 60, 61, 62, 63, 64, 65, 66, 67, 68, 69, 70, 10, 11, 12, 13, 18, 19, 20, 21, 22, 23, 24, 25, 26, 27, 28, 29, 30, 31, 32, 33, 34, 35, 36, 37, 38, 39, 71, 72, 73, 74, 75, 76, 77, 78, 79, 80, 81, 82, 83, 84, 85, 86, 87, 88, 89, 90, 91, 92, 93, 94, 95, 96, 97, 98, 99, 100, 101, 102] (by decide +kernel) (by decide +kernel)
set_option maxRecDepth 20000 in
theorem gX4_digestRod_X4_takes : GoodIn wsX4_digestRod (wsV RX4 103 RX4 yX4_takes wsX4_takes) := goodIn_app (goodIn_of _ (by decide +kernel)) ggX4_digestRod_X4_takes
theorem dX4_digestRod_0 : decode cX4_digestRod 0 = .ok (.iconst 0, 1) := by decide +kernel
theorem dX4_digestRod_1 : decode cX4_digestRod 1 = .ok (.istore_n 2, 1) := by decide +kernel
theorem dX4_digestRod_2 : decode cX4_digestRod 2 = .ok (.iload_n 2, 1) := by decide +kernel
theorem dX4_digestRod_3 : decode cX4_digestRod 3 = .ok (.bipush 8, 2) := by decide +kernel
theorem dX4_digestRod_5 : decode cX4_digestRod 5 = .ok (.if_icmp .ge 20, 3) := by decide +kernel
theorem dX4_digestRod_8 : decode cX4_digestRod 8 = .ok (.aload_n 0, 1) := by decide +kernel
theorem dX4_digestRod_9 : decode cX4_digestRod 9 = .ok (.aload_n 0, 1) := by decide +kernel
theorem dX4_digestRod_10 : decode cX4_digestRod 10 = .ok (.iload_n 1, 1) := by decide +kernel
theorem dX4_digestRod_11 : decode cX4_digestRod 11 = .ok (.iload_n 2, 1) := by decide +kernel
theorem dX4_digestRod_12 : decode cX4_digestRod 12 = .ok (.invokevirtual 124, 3) := by decide +kernel
theorem dX4_digestRod_15 : decode cX4_digestRod 15 = .ok (.i2l, 1) := by decide +kernel
theorem dX4_digestRod_16 : decode cX4_digestRod 16 = .ok (.invokevirtual 169, 3) := by decide +kernel
theorem dX4_digestRod_19 : decode cX4_digestRod 19 = .ok (.iinc 2 1, 3) := by decide +kernel
theorem dX4_digestRod_22 : decode cX4_digestRod 22 = .ok (.goto (-20), 3) := by decide +kernel
theorem dX4_digestRod_25 : decode cX4_digestRod 25 = .ok (.aload_n 0, 1) := by decide +kernel
theorem dX4_digestRod_26 : decode cX4_digestRod 26 = .ok (.aload_n 0, 1) := by decide +kernel
theorem dX4_digestRod_27 : decode cX4_digestRod 27 = .ok (.iload_n 1, 1) := by decide +kernel
theorem dX4_digestRod_28 : decode cX4_digestRod 28 = .ok (.iconst 0, 1) := by decide +kernel
theorem dX4_digestRod_29 : decode cX4_digestRod 29 = .ok (.invokevirtual 139, 3) := by decide +kernel
theorem dX4_digestRod_32 : decode cX4_digestRod 32 = .ok (.i2l, 1) := by decide +kernel
theorem dX4_digestRod_33 : decode cX4_digestRod 33 = .ok (.invokevirtual 169, 3) := by decide +kernel
theorem dX4_digestRod_36 : decode cX4_digestRod 36 = .ok (.aload_n 0, 1) := by decide +kernel
theorem dX4_digestRod_37 : decode cX4_digestRod 37 = .ok (.aload_n 0, 1) := by decide +kernel
theorem dX4_digestRod_38 : decode cX4_digestRod 38 = .ok (.iload_n 1, 1) := by decide +kernel
theorem dX4_digestRod_39 : decode cX4_digestRod 39 = .ok (.bipush 7, 2) := by decide +kernel
theorem dX4_digestRod_41 : decode cX4_digestRod 41 = .ok (.invokevirtual 139, 3) := by decide +kernel
theorem dX4_digestRod_44 : decode cX4_digestRod 44 = .ok (.i2l, 1) := by decide +kernel
theorem dX4_digestRod_45 : decode cX4_digestRod 45 = .ok (.invokevirtual 169, 3) := by decide +kernel
theorem dX4_digestRod_48 : decode cX4_digestRod 48 = .ok (.aload_n 0, 1) := by decide +kernel
theorem dX4_digestRod_49 : decode cX4_digestRod 49 = .ok (.aload_n 0, 1) := by decide +kernel
theorem dX4_digestRod_50 : decode cX4_digestRod 50 = .ok (.iload_n 1, 1) := by decide +kernel
theorem dX4_digestRod_51 : decode cX4_digestRod 51 = .ok (.bipush 15, 2) := by decide +kernel
theorem dX4_digestRod_53 : decode cX4_digestRod 53 = .ok (.invokevirtual 139, 3) := by decide +kernel
theorem dX4_digestRod_56 : decode cX4_digestRod 56 = .ok (.i2l, 1) := by decide +kernel
theorem dX4_digestRod_57 : decode cX4_digestRod 57 = .ok (.invokevirtual 169, 3) := by decide +kernel
theorem dX4_digestRod_60 : decode cX4_digestRod 60 = .ok (.aload_n 0, 1) := by decide +kernel
theorem dX4_digestRod_61 : decode cX4_digestRod 61 = .ok (.aload_n 0, 1) := by decide +kernel
theorem dX4_digestRod_62 : decode cX4_digestRod 62 = .ok (.iconst 0, 1) := by decide +kernel
theorem dX4_digestRod_63 : decode cX4_digestRod 63 = .ok (.iload_n 1, 1) := by decide +kernel
theorem dX4_digestRod_64 : decode cX4_digestRod 64 = .ok (.iconst 1, 1) := by decide +kernel
theorem dX4_digestRod_65 : decode cX4_digestRod 65 = .ok (.invokevirtual 103, 3) := by decide +kernel
theorem dX4_digestRod_68 : decode cX4_digestRod 68 = .ok (.i2l, 1) := by decide +kernel
theorem dX4_digestRod_69 : decode cX4_digestRod 69 = .ok (.invokevirtual 169, 3) := by decide +kernel
theorem dX4_digestRod_72 : decode cX4_digestRod 72 = .ok (.aload_n 0, 1) := by decide +kernel
theorem dX4_digestRod_73 : decode cX4_digestRod 73 = .ok (.aload_n 0, 1) := by decide +kernel
theorem dX4_digestRod_74 : decode cX4_digestRod 74 = .ok (.iconst 0, 1) := by decide +kernel
theorem dX4_digestRod_75 : decode cX4_digestRod 75 = .ok (.iload_n 1, 1) := by decide +kernel
theorem dX4_digestRod_76 : decode cX4_digestRod 76 = .ok (.bipush 6, 2) := by decide +kernel
theorem dX4_digestRod_78 : decode cX4_digestRod 78 = .ok (.invokevirtual 103, 3) := by decide +kernel
theorem dX4_digestRod_81 : decode cX4_digestRod 81 = .ok (.i2l, 1) := by decide +kernel
theorem dX4_digestRod_82 : decode cX4_digestRod 82 = .ok (.invokevirtual 169, 3) := by decide +kernel
theorem dX4_digestRod_85 : decode cX4_digestRod 85 = .ok (.aload_n 0, 1) := by decide +kernel
theorem dX4_digestRod_86 : decode cX4_digestRod 86 = .ok (.aload_n 0, 1) := by decide +kernel
theorem dX4_digestRod_87 : decode cX4_digestRod 87 = .ok (.iconst 0, 1) := by decide +kernel
theorem dX4_digestRod_88 : decode cX4_digestRod 88 = .ok (.iload_n 1, 1) := by decide +kernel
theorem dX4_digestRod_89 : decode cX4_digestRod 89 = .ok (.iconst (-1), 1) := by decide +kernel
theorem dX4_digestRod_90 : decode cX4_digestRod 90 = .ok (.invokevirtual 103, 3) := by decide +kernel
theorem dX4_digestRod_93 : decode cX4_digestRod 93 = .ok (.i2l, 1) := by decide +kernel
theorem dX4_digestRod_94 : decode cX4_digestRod 94 = .ok (.invokevirtual 169, 3) := by decide +kernel
theorem dX4_digestRod_97 : decode cX4_digestRod 97 = .ok (.aload_n 0, 1) := by decide +kernel
theorem dX4_digestRod_98 : decode cX4_digestRod 98 = .ok (.aload_n 0, 1) := by decide +kernel
theorem dX4_digestRod_99 : decode cX4_digestRod 99 = .ok (.iconst 0, 1) := by decide +kernel
theorem dX4_digestRod_100 : decode cX4_digestRod 100 = .ok (.iload_n 1, 1) := by decide +kernel
theorem dX4_digestRod_101 : decode cX4_digestRod 101 = .ok (.bipush (-6), 2) := by decide +kernel
theorem dX4_digestRod_103 : decode cX4_digestRod 103 = .ok (.invokevirtual 103, 3) := by decide +kernel
theorem dX4_digestRod_106 : decode cX4_digestRod 106 = .ok (.i2l, 1) := by decide +kernel
theorem dX4_digestRod_107 : decode cX4_digestRod 107 = .ok (.invokevirtual 169, 3) := by decide +kernel
theorem dX4_digestRod_110 : decode cX4_digestRod 110 = .ok (.return_, 1) := by decide +kernel
set_option maxRecDepth 20000 in
theorem ggX4_digest_X4_counted : GoodIn wsX4_digest wsX4_counted := goodIn_r _ [11, 12, 13, 14, 15, 16, 10, 17, 18, 19, 20, 21, 22, 23, 24, 25, 26, 27, 28, 138, 139, 140, 141, 142, 143, 144, 145] (by decide +kernel) (by decide +kernel)
set_option maxRecDepth 20000 in
theorem gX4_digest_X4_counted : GoodIn wsX4_digest (wsV RX4 136 RX4 yX4_counted wsX4_counted) := goodIn_app (goodIn_of _ (by decide +kernel)) ggX4_digest_X4_counted
set_option maxRecDepth 20000 in
theorem ggX4_digest_X4_digestOne : GoodIn wsX4_digest wsX4_digestOne := goodIn_r _ [32, 33, 3, 138, 139, 140, 141, 142, 143, 144, 145] (by decide +kernel) (by decide +kernel)
set_option maxRecDepth 20000 in
theorem gX4_digest_X4_digestOne : GoodIn wsX4_digest (wsV RX4 169 RX4 yX4_digestOne wsX4_digestOne) := goodIn_app (goodIn_of _ (by decide +kernel)) ggX4_digest_X4_digestOne
set_option maxRecDepth 20000 in
theorem ggX4_digest_X4_all : GoodIn wsX4_digest wsX4_all := goodIn_r _ [37, 38, 12, 25, 26, 27, 10, 28, 18, 19, 20, 138, 139, 140, 141, 142, 143, 144, 145] (by decide +kernel) (by decide +kernel)
set_option maxRecDepth 20000 in
theorem gX4_digest_X4_all : GoodIn wsX4_digest (wsV RX4 129 RX4 yX4_all wsX4_all) := goodIn_app (goodIn_of _ (by decide +kernel)) ggX4_digest_X4_all
set_option maxRecDepth 20000 in
theorem ggX4_digest_X4_digestRod : GoodIn wsX4_digest wsX4_digestRod := goodIn_r _ [42, 43, 44, 45, 10, 46, 12, 18, 19, 20, 25, 26, 27, 28, 47, 48, 49, 50, 51, 52, 53, 54, 55, 56, 57, 58, 59, 60, 61, 62, 63, 64, 65, 66, 67, 68, 69, 70, 71, 72, 29, 30, 31, 32, 33, 3, 73, 74, 75, 76, 77, 78, 79, 80, 14, 15, 16, 17, 81, 82, 83, 84, 85, 86, 87, 88, 89, 90, 91, 92, 93, 94, 95, 96, 97, 98, 99, 100, 101, 102, 103, 104, 105, 106, 107, 108, 109, 110, 111, 112, 113, 114, 115, 116, 117, 138, 139, 140, 141, 142, 143, 144, 145] (by decide +kernel) (by decide +kernel)
set_option maxRecDepth 20000 in
theorem gX4_digest_X4_digestRod : GoodIn wsX4_digest (wsV RX4 175 RX4 yX4_digestRod wsX4_digestRod) := goodIn_app (goodIn_of _ (by decide +kernel)) ggX4_digest_X4_digestRod
set_option maxRecDepth 20000 in
theorem ggX4_digest_X4_showing : GoodIn wsX4_digest wsX4_showing := goodIn_r _ [121, 73, 74, 75, 10, 76, 55, 56, 57, 58, 59, 60, 61, 62, 63, 64, 65, 12, 18, 19, 20, 66, 67, 68, 69, 70, 71, 72, 138, 139, 140, 141, 142, 143, 144, 145] (by decide +kernel) (by decide +kernel)
set_option maxRecDepth 20000 in
theorem gX4_digest_X4_showing : GoodIn wsX4_digest (wsV RX4 143 RX4 yX4_showing wsX4_showing) := goodIn_app (goodIn_of _ (by decide +kernel)) ggX4_digest_X4_showing
set_option maxRecDepth 20000 in
theorem ggX4_digest_X4_cheapest : GoodIn wsX4_digest wsX4_cheapest := goodIn_r _ [125, 12, 18, 19, 10, 20, 77, 78, 79, 80, 14, 15, 16, 17, 81, 82, 83, 84, 85, 86, 87, 88, 89, 90, 91, 92, 93, 25, 26, 27, 28, 51, 52, 53, 54, 55, 56, 57, 58, 59, 60, 61, 62, 63, 64, 65, 66, 67, 68, 69, 70, 71, 72, 94, 95, 96, 97, 98, 99, 100, 101, 102, 103, 104, 105, 106, 107, 108, 109, 110, 111, 112, 113, 114, 115, 116, 117, 138, 139, 140, 141, 142, 143, 144, 145] (by decide +kernel) (by decide +kernel)
set_option maxRecDepth 20000 in
theorem gX4_digest_X4_cheapest : GoodIn wsX4_digest (wsV RX4 146 RX4 yX4_cheapest wsX4_cheapest) := goodIn_app (goodIn_of _ (by decide +kernel)) ggX4_digest_X4_cheapest
set_option maxRecDepth 20000 in
theorem ggX4_digest_X4_loose : GoodIn wsX4_digest wsX4_loose := goodIn_r _ [129, 130, 47, 48, 49, 10, 50, 51, 52, 53, 54, 55, 56, 57, 58, 59, 60, 61, 62, 63, 64, 65, 12, 18, 19, 20, 66, 67, 68, 69, 70, 71, 72, 138, 139, 140, 141, 142, 143, 144, 145] (by decide +kernel) (by decide +kernel)
set_option maxRecDepth 20000 in
theorem gX4_digest_X4_loose : GoodIn wsX4_digest (wsV RX4 151 RX4 yX4_loose wsX4_loose) := goodIn_app (goodIn_of _ (by decide +kernel)) ggX4_digest_X4_loose
set_option maxRecDepth 20000 in
theorem ggX4_digest_X4_bitsOf : GoodIn wsX4_digest wsX4_bitsOf := goodIn_r _ [133, 134, 135, 136, 137] (by decide +kernel) (by decide +kernel)
set_option maxRecDepth 20000 in
theorem gX4_digest_X4_bitsOf : GoodIn wsX4_digest (va_wsS RX4 180 yX4_bitsOf wsX4_bitsOf) := goodIn_app (goodIn_of _ (by decide +kernel)) ggX4_digest_X4_bitsOf
theorem dX4_digest_0 : decode cX4_digest 0 = .ok (.aload_n 0, 1) := by decide +kernel
theorem dX4_digest_1 : decode cX4_digest 1 = .ok (.iconst 0, 1) := by decide +kernel
theorem dX4_digest_2 : decode cX4_digest 2 = .ok (.putfield 22, 3) := by decide +kernel
theorem dX4_digest_5 : decode cX4_digest 5 = .ok (.aload_n 0, 1) := by decide +kernel
theorem dX4_digest_6 : decode cX4_digest 6 = .ok (.ldc2_w 173, 3) := by decide +kernel
theorem dX4_digest_9 : decode cX4_digest 9 = .ok (.putfield 165, 3) := by decide +kernel
theorem dX4_digest_12 : decode cX4_digest 12 = .ok (.iconst 0, 1) := by decide +kernel
theorem dX4_digest_13 : decode cX4_digest 13 = .ok (.istore_n 1, 1) := by decide +kernel
theorem dX4_digest_14 : decode cX4_digest 14 = .ok (.iload_n 1, 1) := by decide +kernel
theorem dX4_digest_15 : decode cX4_digest 15 = .ok (.bipush 8, 2) := by decide +kernel
theorem dX4_digest_17 : decode cX4_digest 17 = .ok (.if_icmp .ge 19, 3) := by decide +kernel
theorem dX4_digest_20 : decode cX4_digest 20 = .ok (.aload_n 0, 1) := by decide +kernel
theorem dX4_digest_21 : decode cX4_digest 21 = .ok (.aload_n 0, 1) := by decide +kernel
theorem dX4_digest_22 : decode cX4_digest 22 = .ok (.iload_n 1, 1) := by decide +kernel
theorem dX4_digest_23 : decode cX4_digest 23 = .ok (.invokevirtual 136, 3) := by decide +kernel
theorem dX4_digest_26 : decode cX4_digest 26 = .ok (.i2l, 1) := by decide +kernel
theorem dX4_digest_27 : decode cX4_digest 27 = .ok (.invokevirtual 169, 3) := by decide +kernel
theorem dX4_digest_30 : decode cX4_digest 30 = .ok (.iinc 1 1, 3) := by decide +kernel
theorem dX4_digest_33 : decode cX4_digest 33 = .ok (.goto (-19), 3) := by decide +kernel
theorem dX4_digest_36 : decode cX4_digest 36 = .ok (.aload_n 0, 1) := by decide +kernel
theorem dX4_digest_37 : decode cX4_digest 37 = .ok (.aload_n 0, 1) := by decide +kernel
theorem dX4_digest_38 : decode cX4_digest 38 = .ok (.invokevirtual 129, 3) := by decide +kernel
theorem dX4_digest_41 : decode cX4_digest 41 = .ok (.invokevirtual 169, 3) := by decide +kernel
theorem dX4_digest_44 : decode cX4_digest 44 = .ok (.iconst 0, 1) := by decide +kernel
theorem dX4_digest_45 : decode cX4_digest 45 = .ok (.istore_n 1, 1) := by decide +kernel
theorem dX4_digest_46 : decode cX4_digest 46 = .ok (.iload_n 1, 1) := by decide +kernel
theorem dX4_digest_47 : decode cX4_digest 47 = .ok (.bipush 9, 2) := by decide +kernel
theorem dX4_digest_49 : decode cX4_digest 49 = .ok (.if_icmp .ge 14, 3) := by decide +kernel
theorem dX4_digest_52 : decode cX4_digest 52 = .ok (.aload_n 0, 1) := by decide +kernel
theorem dX4_digest_53 : decode cX4_digest 53 = .ok (.iload_n 1, 1) := by decide +kernel
theorem dX4_digest_54 : decode cX4_digest 54 = .ok (.invokevirtual 175, 3) := by decide +kernel
theorem dX4_digest_57 : decode cX4_digest 57 = .ok (.iinc 1 1, 3) := by decide +kernel
theorem dX4_digest_60 : decode cX4_digest 60 = .ok (.goto (-14), 3) := by decide +kernel
theorem dX4_digest_63 : decode cX4_digest 63 = .ok (.aload_n 0, 1) := by decide +kernel
theorem dX4_digest_64 : decode cX4_digest 64 = .ok (.aload_n 0, 1) := by decide +kernel
theorem dX4_digest_65 : decode cX4_digest 65 = .ok (.iconst 0, 1) := by decide +kernel
theorem dX4_digest_66 : decode cX4_digest 66 = .ok (.invokevirtual 143, 3) := by decide +kernel
theorem dX4_digest_69 : decode cX4_digest 69 = .ok (.i2l, 1) := by decide +kernel
theorem dX4_digest_70 : decode cX4_digest 70 = .ok (.invokevirtual 169, 3) := by decide +kernel
theorem dX4_digest_73 : decode cX4_digest 73 = .ok (.aload_n 0, 1) := by decide +kernel
theorem dX4_digest_74 : decode cX4_digest 74 = .ok (.aload_n 0, 1) := by decide +kernel
theorem dX4_digest_75 : decode cX4_digest 75 = .ok (.ldc 179, 2) := by decide +kernel
theorem dX4_digest_77 : decode cX4_digest 77 = .ok (.invokevirtual 143, 3) := by decide +kernel
theorem dX4_digest_80 : decode cX4_digest 80 = .ok (.i2l, 1) := by decide +kernel
theorem dX4_digest_81 : decode cX4_digest 81 = .ok (.invokevirtual 169, 3) := by decide +kernel
theorem dX4_digest_84 : decode cX4_digest 84 = .ok (.aload_n 0, 1) := by decide +kernel
theorem dX4_digest_85 : decode cX4_digest 85 = .ok (.aload_n 0, 1) := by decide +kernel
theorem dX4_digest_86 : decode cX4_digest 86 = .ok (.invokevirtual 146, 3) := by decide +kernel
theorem dX4_digest_89 : decode cX4_digest 89 = .ok (.i2l, 1) := by decide +kernel
theorem dX4_digest_90 : decode cX4_digest 90 = .ok (.invokevirtual 169, 3) := by decide +kernel
theorem dX4_digest_93 : decode cX4_digest 93 = .ok (.aload_n 0, 1) := by decide +kernel
theorem dX4_digest_94 : decode cX4_digest 94 = .ok (.aload_n 0, 1) := by decide +kernel
theorem dX4_digest_95 : decode cX4_digest 95 = .ok (.invokevirtual 151, 3) := by decide +kernel
theorem dX4_digest_98 : decode cX4_digest 98 = .ok (.invokestatic 180, 3) := by decide +kernel
theorem dX4_digest_101 : decode cX4_digest 101 = .ok (.invokevirtual 169, 3) := by decide +kernel
theorem dX4_digest_104 : decode cX4_digest 104 = .ok (.aload_n 0, 1) := by decide +kernel
theorem dX4_digest_105 : decode cX4_digest 105 = .ok (.aload_n 0, 1) := by decide +kernel
theorem dX4_digest_106 : decode cX4_digest 106 = .ok (.getfield 109, 3) := by decide +kernel
theorem dX4_digest_109 : decode cX4_digest 109 = .ok (.i2l, 1) := by decide +kernel
theorem dX4_digest_110 : decode cX4_digest 110 = .ok (.invokevirtual 169, 3) := by decide +kernel
theorem dX4_digest_113 : decode cX4_digest 113 = .ok (.iconst 0, 1) := by decide +kernel
theorem dX4_digest_114 : decode cX4_digest 114 = .ok (.istore_n 1, 1) := by decide +kernel
theorem dX4_digest_115 : decode cX4_digest 115 = .ok (.iload_n 1, 1) := by decide +kernel
theorem dX4_digest_116 : decode cX4_digest 116 = .ok (.aload_n 0, 1) := by decide +kernel
theorem dX4_digest_117 : decode cX4_digest 117 = .ok (.getfield 109, 3) := by decide +kernel
theorem dX4_digest_120 : decode cX4_digest 120 = .ok (.if_icmp .ge 20, 3) := by decide +kernel
theorem dX4_digest_123 : decode cX4_digest 123 = .ok (.aload_n 0, 1) := by decide +kernel
theorem dX4_digest_124 : decode cX4_digest 124 = .ok (.aload_n 0, 1) := by decide +kernel
theorem dX4_digest_125 : decode cX4_digest 125 = .ok (.getfield 19, 3) := by decide +kernel
theorem dX4_digest_128 : decode cX4_digest 128 = .ok (.iload_n 1, 1) := by decide +kernel
theorem dX4_digest_129 : decode cX4_digest 129 = .ok (.iaload, 1) := by decide +kernel
theorem dX4_digest_130 : decode cX4_digest 130 = .ok (.i2l, 1) := by decide +kernel
theorem dX4_digest_131 : decode cX4_digest 131 = .ok (.invokevirtual 169, 3) := by decide +kernel
theorem dX4_digest_134 : decode cX4_digest 134 = .ok (.iinc 1 1, 3) := by decide +kernel
theorem dX4_digest_137 : decode cX4_digest 137 = .ok (.goto (-22), 3) := by decide +kernel
theorem dX4_digest_140 : decode cX4_digest 140 = .ok (.aload_n 0, 1) := by decide +kernel
theorem dX4_digest_141 : decode cX4_digest 141 = .ok (.getfield 165, 3) := by decide +kernel
theorem dX4_digest_144 : decode cX4_digest 144 = .ok (.lreturn, 1) := by decide +kernel
theorem dJ9_floorMod_7cf53_0 : decode cJ9_floorMod_7cf53 0 = .ok (.iload_n 0, 1) := by decide +kernel
theorem dJ9_floorMod_7cf53_1 : decode cJ9_floorMod_7cf53 1 = .ok (.iload_n 1, 1) := by decide +kernel
theorem dJ9_floorMod_7cf53_2 : decode cJ9_floorMod_7cf53 2 = .ok (.irem, 1) := by decide +kernel
theorem dJ9_floorMod_7cf53_3 : decode cJ9_floorMod_7cf53 3 = .ok (.istore_n 2, 1) := by decide +kernel
theorem dJ9_floorMod_7cf53_4 : decode cJ9_floorMod_7cf53 4 = .ok (.iload_n 0, 1) := by decide +kernel
theorem dJ9_floorMod_7cf53_5 : decode cJ9_floorMod_7cf53 5 = .ok (.iload_n 1, 1) := by decide +kernel
theorem dJ9_floorMod_7cf53_6 : decode cJ9_floorMod_7cf53 6 = .ok (.ixor, 1) := by decide +kernel
theorem dJ9_floorMod_7cf53_7 : decode cJ9_floorMod_7cf53 7 = .ok (.ifCond .ge 11, 3) := by decide +kernel
theorem dJ9_floorMod_7cf53_10 : decode cJ9_floorMod_7cf53 10 = .ok (.iload_n 2, 1) := by decide +kernel
theorem dJ9_floorMod_7cf53_11 : decode cJ9_floorMod_7cf53 11 = .ok (.ifCond .eq 7, 3) := by decide +kernel
theorem dJ9_floorMod_7cf53_14 : decode cJ9_floorMod_7cf53 14 = .ok (.iload_n 2, 1) := by decide +kernel
theorem dJ9_floorMod_7cf53_15 : decode cJ9_floorMod_7cf53 15 = .ok (.iload_n 1, 1) := by decide +kernel
theorem dJ9_floorMod_7cf53_16 : decode cJ9_floorMod_7cf53 16 = .ok (.iadd, 1) := by decide +kernel
theorem dJ9_floorMod_7cf53_17 : decode cJ9_floorMod_7cf53 17 = .ok (.ireturn, 1) := by decide +kernel
theorem dJ9_floorMod_7cf53_18 : decode cJ9_floorMod_7cf53 18 = .ok (.iload_n 2, 1) := by decide +kernel
theorem dJ9_floorMod_7cf53_19 : decode cJ9_floorMod_7cf53 19 = .ok (.ireturn, 1) := by decide +kernel
theorem dJ9_abs_0f7a4_0 : decode cJ9_abs_0f7a4 0 = .ok (.iload_n 0, 1) := by decide +kernel
theorem dJ9_abs_0f7a4_1 : decode cJ9_abs_0f7a4 1 = .ok (.ifCond .ge 8, 3) := by decide +kernel
theorem dJ9_abs_0f7a4_4 : decode cJ9_abs_0f7a4 4 = .ok (.iload_n 0, 1) := by decide +kernel
theorem dJ9_abs_0f7a4_5 : decode cJ9_abs_0f7a4 5 = .ok (.ineg, 1) := by decide +kernel
theorem dJ9_abs_0f7a4_6 : decode cJ9_abs_0f7a4 6 = .ok (.goto 4, 3) := by decide +kernel
theorem dJ9_abs_0f7a4_9 : decode cJ9_abs_0f7a4 9 = .ok (.iload_n 0, 1) := by decide +kernel
theorem dJ9_abs_0f7a4_10 : decode cJ9_abs_0f7a4 10 = .ok (.ireturn, 1) := by decide +kernel
set_option maxRecDepth 20000 in
theorem ggL_move_X3_move : GoodIn wsL_move wsX3_move := goodIn_ca (goodIn_ca (goodIn_ca (goodIn_r _ [8, 9, 10, 11, 12, 13, 14, 7, 15, 16, 17, 18, 19, 20, 21, 22, 23, 24, 25, 26, 27, 28, 29, 30, 31, 32, 33, 34, 35, 36, 37, 38, 39, 40, 41, 42, 43, 44, 45, 46, 47, 48, 49, 50, 51, 52, 53, 54, 55, 56, 57, 58, 59, 60, 61, 62, 63, 64, 65, 66, 67] (by decide +kernel) (by decide +kernel)) (goodIn_sub (fun _ h => List.mem_cons_of_mem _ (List.mem_append_left _ (List.mem_append_left _ (List.mem_append_right _ h)))) (by decide +kernel))) (goodIn_sub (fun _ h => List.mem_cons_of_mem _ (List.mem_append_left _ (List.mem_append_right _ h))) (by decide +kernel))) (goodIn_sub (fun _ h => List.mem_cons_of_mem _ (List.mem_append_right _ h)) (by decide +kernel))
set_option maxRecDepth 20000 in
theorem gL_move_X3_move : GoodIn wsL_move (wsV RL 7 RX3 yX3_move wsX3_move) := goodIn_app (goodIn_of _ (by decide +kernel)) ggL_move_X3_move
theorem dL_move_0 : decode cL_move 0 = .ok (.aload 4, 2) := by decide +kernel
theorem dL_move_2 : decode cL_move 2 = .ok (.iconst 0, 1) := by decide +kernel
theorem dL_move_3 : decode cL_move 3 = .ok (.aload_n 0, 1) := by decide +kernel
theorem dL_move_4 : decode cL_move 4 = .ok (.iload_n 1, 1) := by decide +kernel
theorem dL_move_5 : decode cL_move 5 = .ok (.iload_n 2, 1) := by decide +kernel
theorem dL_move_6 : decode cL_move 6 = .ok (.iload_n 3, 1) := by decide +kernel
theorem dL_move_7 : decode cL_move 7 = .ok (.invokevirtual 7, 3) := by decide +kernel
theorem dL_move_10 : decode cL_move 10 = .ok (.i2l, 1) := by decide +kernel
theorem dL_move_11 : decode cL_move 11 = .ok (.lastore, 1) := by decide +kernel
theorem dL_move_12 : decode cL_move 12 = .ok (.goto 15, 3) := by decide +kernel
theorem dL_move_15 : decode cL_move 15 = .ok (.astore 5, 2) := by decide +kernel
theorem dL_move_17 : decode cL_move 17 = .ok (.iconst 1, 1) := by decide +kernel
theorem dL_move_18 : decode cL_move 18 = .ok (.ireturn, 1) := by decide +kernel
theorem dL_move_19 : decode cL_move 19 = .ok (.astore 5, 2) := by decide +kernel
theorem dL_move_21 : decode cL_move 21 = .ok (.iconst 2, 1) := by decide +kernel
theorem dL_move_22 : decode cL_move 22 = .ok (.ireturn, 1) := by decide +kernel
theorem dL_move_23 : decode cL_move 23 = .ok (.astore 5, 2) := by decide +kernel
theorem dL_move_25 : decode cL_move 25 = .ok (.iconst 3, 1) := by decide +kernel
theorem dL_move_26 : decode cL_move 26 = .ok (.ireturn, 1) := by decide +kernel
theorem dL_move_27 : decode cL_move 27 = .ok (.iconst 0, 1) := by decide +kernel
theorem dL_move_28 : decode cL_move 28 = .ok (.ireturn, 1) := by decide +kernel
set_option maxRecDepth 20000 in
theorem ggL_stick_X3_stick : GoodIn wsL_stick wsX3_stick := goodIn_ca (goodIn_ca (goodIn_r _ [7, 8, 9, 10, 11, 12, 6, 13, 14, 15, 16, 17, 18, 19, 20, 21, 22, 23, 24, 25, 26, 27, 28, 29, 30, 31, 32, 33, 34, 35, 36, 37, 38, 39, 40, 41, 42, 43, 44, 45, 46, 47, 48, 49, 50, 51, 52, 53] (by decide +kernel) (by decide +kernel)) (goodIn_sub (fun _ h => List.mem_cons_of_mem _ (List.mem_append_left _ (List.mem_append_right _ h))) (by decide +kernel))) (goodIn_sub (fun _ h => List.mem_cons_of_mem _ (List.mem_append_right _ h)) (by decide +kernel))
set_option maxRecDepth 20000 in
theorem gL_stick_X3_stick : GoodIn wsL_stick (wsV RL 19 RX3 yX3_stick wsX3_stick) := goodIn_app (goodIn_of _ (by decide +kernel)) ggL_stick_X3_stick
theorem dL_stick_0 : decode cL_stick 0 = .ok (.aload_n 3, 1) := by decide +kernel
theorem dL_stick_1 : decode cL_stick 1 = .ok (.iconst 0, 1) := by decide +kernel
theorem dL_stick_2 : decode cL_stick 2 = .ok (.aload_n 0, 1) := by decide +kernel
theorem dL_stick_3 : decode cL_stick 3 = .ok (.iload_n 1, 1) := by decide +kernel
theorem dL_stick_4 : decode cL_stick 4 = .ok (.iload_n 2, 1) := by decide +kernel
theorem dL_stick_5 : decode cL_stick 5 = .ok (.invokevirtual 19, 3) := by decide +kernel
theorem dL_stick_8 : decode cL_stick 8 = .ok (.i2l, 1) := by decide +kernel
theorem dL_stick_9 : decode cL_stick 9 = .ok (.lastore, 1) := by decide +kernel
theorem dL_stick_10 : decode cL_stick 10 = .ok (.goto 11, 3) := by decide +kernel
theorem dL_stick_13 : decode cL_stick 13 = .ok (.astore 4, 2) := by decide +kernel
theorem dL_stick_15 : decode cL_stick 15 = .ok (.iconst 1, 1) := by decide +kernel
theorem dL_stick_16 : decode cL_stick 16 = .ok (.ireturn, 1) := by decide +kernel
theorem dL_stick_17 : decode cL_stick 17 = .ok (.astore 4, 2) := by decide +kernel
theorem dL_stick_19 : decode cL_stick 19 = .ok (.iconst 2, 1) := by decide +kernel
theorem dL_stick_20 : decode cL_stick 20 = .ok (.ireturn, 1) := by decide +kernel
theorem dL_stick_21 : decode cL_stick 21 = .ok (.iconst 0, 1) := by decide +kernel
theorem dL_stick_22 : decode cL_stick 22 = .ok (.ireturn, 1) := by decide +kernel
set_option maxRecDepth 20000 in
theorem ggL_set_X3_set : GoodIn wsL_set wsX3_set := goodIn_ca (goodIn_r _ [6, 7, 8, 9, 10, 11, 5, 12, 13, 14, 15, 16, 17, 18, 19, 20, 21, 22, 23, 24, 25, 26, 27, 28, 29, 30, 31, 32, 33, 34, 35, 36, 37, 38, 39, 40, 41, 42, 43, 44, 45, 46, 47] (by decide +kernel) (by decide +kernel)) (goodIn_sub (fun _ h => List.mem_cons_of_mem _ (List.mem_append_right _ h)) (by decide +kernel))
set_option maxRecDepth 20000 in
theorem gL_set_X3_set : GoodIn wsL_set (wsV RL 23 RX3 yX3_set wsX3_set) := goodIn_app (goodIn_of _ (by decide +kernel)) ggL_set_X3_set
theorem dL_set_0 : decode cL_set 0 = .ok (.aload_n 2, 1) := by decide +kernel
theorem dL_set_1 : decode cL_set 1 = .ok (.iconst 0, 1) := by decide +kernel
theorem dL_set_2 : decode cL_set 2 = .ok (.aload_n 0, 1) := by decide +kernel
theorem dL_set_3 : decode cL_set 3 = .ok (.iload_n 1, 1) := by decide +kernel
theorem dL_set_4 : decode cL_set 4 = .ok (.invokevirtual 23, 3) := by decide +kernel
theorem dL_set_7 : decode cL_set 7 = .ok (.i2l, 1) := by decide +kernel
theorem dL_set_8 : decode cL_set 8 = .ok (.lastore, 1) := by decide +kernel
theorem dL_set_9 : decode cL_set 9 = .ok (.goto 6, 3) := by decide +kernel
theorem dL_set_12 : decode cL_set 12 = .ok (.astore_n 3, 1) := by decide +kernel
theorem dL_set_13 : decode cL_set 13 = .ok (.iconst 1, 1) := by decide +kernel
theorem dL_set_14 : decode cL_set 14 = .ok (.ireturn, 1) := by decide +kernel
theorem dL_set_15 : decode cL_set 15 = .ok (.iconst 0, 1) := by decide +kernel
theorem dL_set_16 : decode cL_set 16 = .ok (.ireturn, 1) := by decide +kernel
set_option maxRecDepth 20000 in
theorem ggL_add_X3_add : GoodIn wsL_add wsX3_add := goodIn_ca (goodIn_ca (goodIn_ca (goodIn_r _ [8, 9, 10, 7, 11, 12, 13, 14, 15, 16, 17, 18, 19, 20, 21, 22, 23, 24, 25, 26, 27, 28, 29, 30, 31, 32, 33, 34, 35, 36, 37, 38, 39, 40, 41, 42, 43, 44, 45, 46, 47, 48, 49, 50, 51, 52, 53, 54, 55, 56, 57, 58, 59, 60, 61, 62, 63, 64, 65, 66, 67, 68, 69, 70, 71, 72, 73, 74, 75, 76, 77, 78, 79, 80, 81, 82, 83, 84, 85, 86, 87, 88, 89, 90, 91] (by decide +kernel) (by decide +kernel)) (goodIn_sub (fun _ h => List.mem_cons_of_mem _ (List.mem_append_left _ (List.mem_append_left _ (List.mem_append_right _ h)))) (by decide +kernel))) (goodIn_sub (fun _ h => List.mem_cons_of_mem _ (List.mem_append_left _ (List.mem_append_right _ h))) (by decide +kernel))) (goodIn_sub (fun _ h => List.mem_cons_of_mem _ (List.mem_append_right _ h)) (by decide +kernel))
set_option maxRecDepth 20000 in
theorem gL_add_X3_add : GoodIn wsL_add (wsV RL 27 RX3 yX3_add wsX3_add) := goodIn_app (goodIn_of _ (by decide +kernel)) ggL_add_X3_add
theorem dL_add_0 : decode cL_add 0 = .ok (.aload_n 3, 1) := by decide +kernel
theorem dL_add_1 : decode cL_add 1 = .ok (.iconst 0, 1) := by decide +kernel
theorem dL_add_2 : decode cL_add 2 = .ok (.aload_n 0, 1) := by decide +kernel
theorem dL_add_3 : decode cL_add 3 = .ok (.iload_n 1, 1) := by decide +kernel
theorem dL_add_4 : decode cL_add 4 = .ok (.iload_n 2, 1) := by decide +kernel
theorem dL_add_5 : decode cL_add 5 = .ok (.invokevirtual 27, 3) := by decide +kernel
theorem dL_add_8 : decode cL_add 8 = .ok (.i2l, 1) := by decide +kernel
theorem dL_add_9 : decode cL_add 9 = .ok (.lastore, 1) := by decide +kernel
theorem dL_add_10 : decode cL_add 10 = .ok (.goto 15, 3) := by decide +kernel
theorem dL_add_13 : decode cL_add 13 = .ok (.astore 4, 2) := by decide +kernel
theorem dL_add_15 : decode cL_add 15 = .ok (.iconst 1, 1) := by decide +kernel
theorem dL_add_16 : decode cL_add 16 = .ok (.ireturn, 1) := by decide +kernel
theorem dL_add_17 : decode cL_add 17 = .ok (.astore 4, 2) := by decide +kernel
theorem dL_add_19 : decode cL_add 19 = .ok (.iconst 2, 1) := by decide +kernel
theorem dL_add_20 : decode cL_add 20 = .ok (.ireturn, 1) := by decide +kernel
theorem dL_add_21 : decode cL_add 21 = .ok (.astore 4, 2) := by decide +kernel
theorem dL_add_23 : decode cL_add 23 = .ok (.iconst 3, 1) := by decide +kernel
theorem dL_add_24 : decode cL_add 24 = .ok (.ireturn, 1) := by decide +kernel
theorem dL_add_25 : decode cL_add 25 = .ok (.iconst 0, 1) := by decide +kernel
theorem dL_add_26 : decode cL_add 26 = .ok (.ireturn, 1) := by decide +kernel
set_option maxRecDepth 20000 in
theorem ggL_less_X3_less : GoodIn wsL_less wsX3_less := goodIn_ca (goodIn_ca (goodIn_ca (goodIn_r _ [8, 9, 10, 7, 11, 12, 13, 14, 15, 16, 17, 18, 19, 20, 21, 22, 23, 24, 25, 26, 27, 28, 29, 30, 31, 32, 33, 34, 35, 36, 37, 38, 39, 40, 41, 42, 43, 44, 45, 46, 47, 48, 49, 50, 51, 52, 53, 54, 55, 56, 57, 58, 59, 60, 61, 62, 63, 64, 65, 66, 67, 68, 69, 70, 71, 72, 73, 74, 75, 76, 77, 78, 79, 80, 81, 82, 83, 84, 85, 86, 87, 88, 89, 90, 91] (by decide +kernel) (by decide +kernel)) (goodIn_sub (fun _ h => List.mem_cons_of_mem _ (List.mem_append_left _ (List.mem_append_left _ (List.mem_append_right _ h)))) (by decide +kernel))) (goodIn_sub (fun _ h => List.mem_cons_of_mem _ (List.mem_append_left _ (List.mem_append_right _ h))) (by decide +kernel))) (goodIn_sub (fun _ h => List.mem_cons_of_mem _ (List.mem_append_right _ h)) (by decide +kernel))
set_option maxRecDepth 20000 in
theorem gL_less_X3_less : GoodIn wsL_less (wsV RL 30 RX3 yX3_less wsX3_less) := goodIn_app (goodIn_of _ (by decide +kernel)) ggL_less_X3_less
theorem dL_less_0 : decode cL_less 0 = .ok (.aload_n 3, 1) := by decide +kernel
theorem dL_less_1 : decode cL_less 1 = .ok (.iconst 0, 1) := by decide +kernel
theorem dL_less_2 : decode cL_less 2 = .ok (.aload_n 0, 1) := by decide +kernel
theorem dL_less_3 : decode cL_less 3 = .ok (.iload_n 1, 1) := by decide +kernel
theorem dL_less_4 : decode cL_less 4 = .ok (.iload_n 2, 1) := by decide +kernel
theorem dL_less_5 : decode cL_less 5 = .ok (.invokevirtual 30, 3) := by decide +kernel
theorem dL_less_8 : decode cL_less 8 = .ok (.i2l, 1) := by decide +kernel
theorem dL_less_9 : decode cL_less 9 = .ok (.lastore, 1) := by decide +kernel
theorem dL_less_10 : decode cL_less 10 = .ok (.goto 15, 3) := by decide +kernel
theorem dL_less_13 : decode cL_less 13 = .ok (.astore 4, 2) := by decide +kernel
theorem dL_less_15 : decode cL_less 15 = .ok (.iconst 1, 1) := by decide +kernel
theorem dL_less_16 : decode cL_less 16 = .ok (.ireturn, 1) := by decide +kernel
theorem dL_less_17 : decode cL_less 17 = .ok (.astore 4, 2) := by decide +kernel
theorem dL_less_19 : decode cL_less 19 = .ok (.iconst 2, 1) := by decide +kernel
theorem dL_less_20 : decode cL_less 20 = .ok (.ireturn, 1) := by decide +kernel
theorem dL_less_21 : decode cL_less 21 = .ok (.astore 4, 2) := by decide +kernel
theorem dL_less_23 : decode cL_less 23 = .ok (.iconst 3, 1) := by decide +kernel
theorem dL_less_24 : decode cL_less 24 = .ok (.ireturn, 1) := by decide +kernel
theorem dL_less_25 : decode cL_less 25 = .ok (.iconst 0, 1) := by decide +kernel
theorem dL_less_26 : decode cL_less 26 = .ok (.ireturn, 1) := by decide +kernel
set_option maxRecDepth 20000 in
theorem ggL_pay_X3_pay : GoodIn wsL_pay wsX3_pay := goodIn_ca (goodIn_ca (goodIn_r _ [7, 8, 9, 10, 11, 12, 13, 14, 6, 15, 16, 17, 18, 19, 20, 21, 22, 23, 24, 25, 26, 27, 28, 29, 30, 31, 32, 33, 34, 35, 36, 37, 38, 39, 40, 41, 42, 43, 44, 45, 46, 47, 48, 49, 50, 51, 52, 53, 54, 55, 56, 57, 58, 59, 60, 61, 62, 63, 64, 65, 66, 67, 68, 69, 70, 71, 72, 73, 74, 75, 76, 77, 78, 79, 80, 81, 82, 83, 84, 85, 86, 87] (by decide +kernel) (by decide +kernel)) (goodIn_sub (fun _ h => List.mem_cons_of_mem _ (List.mem_append_left _ (List.mem_append_right _ h))) (by decide +kernel))) (goodIn_sub (fun _ h => List.mem_cons_of_mem _ (List.mem_append_right _ h)) (by decide +kernel))
set_option maxRecDepth 20000 in
theorem gL_pay_X3_pay : GoodIn wsL_pay (wsV RL 33 RX3 yX3_pay wsX3_pay) := goodIn_app (goodIn_of _ (by decide +kernel)) ggL_pay_X3_pay
theorem dL_pay_0 : decode cL_pay 0 = .ok (.aload_n 2, 1) := by decide +kernel
theorem dL_pay_1 : decode cL_pay 1 = .ok (.iconst 0, 1) := by decide +kernel
theorem dL_pay_2 : decode cL_pay 2 = .ok (.aload_n 0, 1) := by decide +kernel
theorem dL_pay_3 : decode cL_pay 3 = .ok (.iload_n 1, 1) := by decide +kernel
theorem dL_pay_4 : decode cL_pay 4 = .ok (.invokevirtual 33, 3) := by decide +kernel
theorem dL_pay_7 : decode cL_pay 7 = .ok (.i2l, 1) := by decide +kernel
theorem dL_pay_8 : decode cL_pay 8 = .ok (.lastore, 1) := by decide +kernel
theorem dL_pay_9 : decode cL_pay 9 = .ok (.goto 9, 3) := by decide +kernel
theorem dL_pay_12 : decode cL_pay 12 = .ok (.astore_n 3, 1) := by decide +kernel
theorem dL_pay_13 : decode cL_pay 13 = .ok (.iconst 1, 1) := by decide +kernel
theorem dL_pay_14 : decode cL_pay 14 = .ok (.ireturn, 1) := by decide +kernel
theorem dL_pay_15 : decode cL_pay 15 = .ok (.astore_n 3, 1) := by decide +kernel
theorem dL_pay_16 : decode cL_pay 16 = .ok (.iconst 2, 1) := by decide +kernel
theorem dL_pay_17 : decode cL_pay 17 = .ok (.ireturn, 1) := by decide +kernel
theorem dL_pay_18 : decode cL_pay 18 = .ok (.iconst 0, 1) := by decide +kernel
theorem dL_pay_19 : decode cL_pay 19 = .ok (.ireturn, 1) := by decide +kernel
set_option maxRecDepth 20000 in
theorem ggL_append_X3_append : GoodIn wsL_append wsX3_append := goodIn_ca (goodIn_ca (goodIn_r _ [7, 8, 9, 10, 11, 12, 13, 14, 6, 15, 16, 17, 18, 19, 20, 21, 22] (by decide +kernel) (by decide +kernel)) (goodIn_sub (fun _ h => List.mem_cons_of_mem _ (List.mem_append_left _ (List.mem_append_right _ h))) (by decide +kernel))) (goodIn_sub (fun _ h => List.mem_cons_of_mem _ (List.mem_append_right _ h)) (by decide +kernel))
set_option maxRecDepth 20000 in
theorem gL_append_X3_append : GoodIn wsL_append (wsV RL 36 RX3 yX3_append wsX3_append) := goodIn_app (goodIn_of _ (by decide +kernel)) ggL_append_X3_append
theorem dL_append_0 : decode cL_append 0 = .ok (.aload_n 2, 1) := by decide +kernel
theorem dL_append_1 : decode cL_append 1 = .ok (.iconst 0, 1) := by decide +kernel
theorem dL_append_2 : decode cL_append 2 = .ok (.aload_n 0, 1) := by decide +kernel
theorem dL_append_3 : decode cL_append 3 = .ok (.iload_n 1, 1) := by decide +kernel
theorem dL_append_4 : decode cL_append 4 = .ok (.invokevirtual 36, 3) := by decide +kernel
theorem dL_append_7 : decode cL_append 7 = .ok (.i2l, 1) := by decide +kernel
theorem dL_append_8 : decode cL_append 8 = .ok (.lastore, 1) := by decide +kernel
theorem dL_append_9 : decode cL_append 9 = .ok (.goto 9, 3) := by decide +kernel
theorem dL_append_12 : decode cL_append 12 = .ok (.astore_n 3, 1) := by decide +kernel
theorem dL_append_13 : decode cL_append 13 = .ok (.iconst 1, 1) := by decide +kernel
theorem dL_append_14 : decode cL_append 14 = .ok (.ireturn, 1) := by decide +kernel
theorem dL_append_15 : decode cL_append 15 = .ok (.astore_n 3, 1) := by decide +kernel
theorem dL_append_16 : decode cL_append 16 = .ok (.iconst 2, 1) := by decide +kernel
theorem dL_append_17 : decode cL_append 17 = .ok (.ireturn, 1) := by decide +kernel
theorem dL_append_18 : decode cL_append 18 = .ok (.iconst 0, 1) := by decide +kernel
theorem dL_append_19 : decode cL_append 19 = .ok (.ireturn, 1) := by decide +kernel
set_option maxRecDepth 20000 in
theorem ggL_reckon_X3_reckon : GoodIn wsL_reckon wsX3_reckon := goodIn_ca (goodIn_r _ [6, 7, 8, 9, 10, 11, 12, 13, 14, 15, 16, 17, 18, 19, 20, 21, 22, 23, 24, 25, 5, 26, 27, 28, 29, 30, 31, 32, 33, 34, 35, 36, 37, 38, 39, 40, 41, 42, 43, 44, 45, 46, 47, 48, 49, 50, 51, 52, 53, 54, 55, 56, 57, 58, 59, 60, 61, 62, 63, 64, 65, 66, 67, 68, 69, 70, 71, 72, 73, 74, 75, 76, 77, 78, 79, 80, 81, 82, 83, 84, 85, 86, 87, 88, 89, 90, 91, 92, 93, 94, 95, 96, 97, 98, 99, 100, 101, 102, 103, 104] (by decide +kernel) (by decide +kernel)) (goodIn_sub (fun _ h => List.mem_cons_of_mem _ (List.mem_append_right _ h)) (by decide +kernel))
set_option maxRecDepth 20000 in
theorem gL_reckon_X3_reckon : GoodIn wsL_reckon (wsV RL 39 RX3 yX3_reckon wsX3_reckon) := goodIn_app (goodIn_of _ (by decide +kernel)) ggL_reckon_X3_reckon
theorem dL_reckon_0 : decode cL_reckon 0 = .ok (.aload_n 1, 1) := by decide +kernel
theorem dL_reckon_1 : decode cL_reckon 1 = .ok (.iconst 0, 1) := by decide +kernel
theorem dL_reckon_2 : decode cL_reckon 2 = .ok (.aload_n 0, 1) := by decide +kernel
theorem dL_reckon_3 : decode cL_reckon 3 = .ok (.invokevirtual 39, 3) := by decide +kernel
theorem dL_reckon_6 : decode cL_reckon 6 = .ok (.i2l, 1) := by decide +kernel
theorem dL_reckon_7 : decode cL_reckon 7 = .ok (.lastore, 1) := by decide +kernel
theorem dL_reckon_8 : decode cL_reckon 8 = .ok (.goto 6, 3) := by decide +kernel
theorem dL_reckon_11 : decode cL_reckon 11 = .ok (.astore_n 2, 1) := by decide +kernel
theorem dL_reckon_12 : decode cL_reckon 12 = .ok (.iconst 1, 1) := by decide +kernel
theorem dL_reckon_13 : decode cL_reckon 13 = .ok (.ireturn, 1) := by decide +kernel
theorem dL_reckon_14 : decode cL_reckon 14 = .ok (.iconst 0, 1) := by decide +kernel
theorem dL_reckon_15 : decode cL_reckon 15 = .ok (.ireturn, 1) := by decide +kernel
set_option maxRecDepth 20000 in
theorem ggL_undo_X3_undo : GoodIn wsL_undo wsX3_undo := goodIn_ca (goodIn_r _ [6, 7, 8, 9, 10, 11, 12, 13, 14, 15, 16, 17, 18, 19, 20, 21, 22, 23, 24, 25, 26, 27, 28, 29, 30, 31, 32, 33, 34, 35, 36, 37, 38, 39, 40, 41, 42, 43, 44] (by decide +kernel) (by decide +kernel)) (goodIn_sub (fun _ h => List.mem_cons_of_mem _ (List.mem_append_right _ h)) (by decide +kernel))
set_option maxRecDepth 20000 in
theorem gL_undo_X3_undo : GoodIn wsL_undo (wsV RL 43 RX3 yX3_undo wsX3_undo) := goodIn_app (goodIn_of _ (by decide +kernel)) ggL_undo_X3_undo
theorem dL_undo_0 : decode cL_undo 0 = .ok (.aload_n 1, 1) := by decide +kernel
theorem dL_undo_1 : decode cL_undo 1 = .ok (.iconst 0, 1) := by decide +kernel
theorem dL_undo_2 : decode cL_undo 2 = .ok (.aload_n 0, 1) := by decide +kernel
theorem dL_undo_3 : decode cL_undo 3 = .ok (.invokevirtual 43, 3) := by decide +kernel
theorem dL_undo_6 : decode cL_undo 6 = .ok (.i2l, 1) := by decide +kernel
theorem dL_undo_7 : decode cL_undo 7 = .ok (.lastore, 1) := by decide +kernel
theorem dL_undo_8 : decode cL_undo 8 = .ok (.goto 6, 3) := by decide +kernel
theorem dL_undo_11 : decode cL_undo 11 = .ok (.astore_n 2, 1) := by decide +kernel
theorem dL_undo_12 : decode cL_undo 12 = .ok (.iconst 1, 1) := by decide +kernel
theorem dL_undo_13 : decode cL_undo 13 = .ok (.ireturn, 1) := by decide +kernel
theorem dL_undo_14 : decode cL_undo 14 = .ok (.iconst 0, 1) := by decide +kernel
theorem dL_undo_15 : decode cL_undo 15 = .ok (.ireturn, 1) := by decide +kernel
set_option maxRecDepth 20000 in
theorem ggL_rod_X3_rod : GoodIn wsL_rod wsX3_rod := goodIn_ca (goodIn_ca (goodIn_r _ [7, 8, 9, 10, 11, 12, 13, 14, 15, 16, 6, 17, 18, 19, 20, 21, 22, 23, 24, 25, 26, 27, 28, 29, 30, 31, 32, 33, 34, 35, 36, 37, 38, 39, 40, 41, 42, 43, 44, 45, 46, 47, 48, 49, 50, 51, 52, 53, 54, 55, 56, 57, 58, 59, 60, 61, 62, 63] (by decide +kernel) (by decide +kernel)) (goodIn_sub (fun _ h => List.mem_cons_of_mem _ (List.mem_append_left _ (List.mem_append_right _ h))) (by decide +kernel))) (goodIn_sub (fun _ h => List.mem_cons_of_mem _ (List.mem_append_right _ h)) (by decide +kernel))
set_option maxRecDepth 20000 in
theorem gL_rod_X3_rod : GoodIn wsL_rod (wsV RL 46 RX3 yX3_rod wsX3_rod) := goodIn_app (goodIn_of _ (by decide +kernel)) ggL_rod_X3_rod
theorem dL_rod_0 : decode cL_rod 0 = .ok (.aload_n 3, 1) := by decide +kernel
theorem dL_rod_1 : decode cL_rod 1 = .ok (.iconst 0, 1) := by decide +kernel
theorem dL_rod_2 : decode cL_rod 2 = .ok (.aload_n 0, 1) := by decide +kernel
theorem dL_rod_3 : decode cL_rod 3 = .ok (.iload_n 1, 1) := by decide +kernel
theorem dL_rod_4 : decode cL_rod 4 = .ok (.iload_n 2, 1) := by decide +kernel
theorem dL_rod_5 : decode cL_rod 5 = .ok (.invokevirtual 46, 3) := by decide +kernel
theorem dL_rod_8 : decode cL_rod 8 = .ok (.i2l, 1) := by decide +kernel
theorem dL_rod_9 : decode cL_rod 9 = .ok (.lastore, 1) := by decide +kernel
theorem dL_rod_10 : decode cL_rod 10 = .ok (.goto 11, 3) := by decide +kernel
theorem dL_rod_13 : decode cL_rod 13 = .ok (.astore 4, 2) := by decide +kernel
theorem dL_rod_15 : decode cL_rod 15 = .ok (.iconst 1, 1) := by decide +kernel
theorem dL_rod_16 : decode cL_rod 16 = .ok (.ireturn, 1) := by decide +kernel
theorem dL_rod_17 : decode cL_rod 17 = .ok (.astore 4, 2) := by decide +kernel
theorem dL_rod_19 : decode cL_rod 19 = .ok (.iconst 2, 1) := by decide +kernel
theorem dL_rod_20 : decode cL_rod 20 = .ok (.ireturn, 1) := by decide +kernel
theorem dL_rod_21 : decode cL_rod 21 = .ok (.iconst 0, 1) := by decide +kernel
theorem dL_rod_22 : decode cL_rod 22 = .ok (.ireturn, 1) := by decide +kernel
set_option maxRecDepth 20000 in
theorem ggL_count_X3_count : GoodIn wsL_count wsX3_count := goodIn_ca (goodIn_r _ [6, 7, 8, 9, 10, 11, 12, 5, 13, 14, 15, 16, 17, 18, 19, 20, 21, 22, 23, 24, 25, 26, 27, 28, 29, 30, 31, 32, 33, 34, 35, 36, 37, 38, 39, 40, 41, 42, 43, 44, 45, 46, 47, 48, 49, 50, 51, 52, 53, 54, 55, 56, 57, 58, 59, 60, 61, 62, 63, 64, 65, 66] (by decide +kernel) (by decide +kernel)) (goodIn_sub (fun _ h => List.mem_cons_of_mem _ (List.mem_append_right _ h)) (by decide +kernel))
set_option maxRecDepth 20000 in
theorem gL_count_X3_count : GoodIn wsL_count (wsV RL 49 RX3 yX3_count wsX3_count) := goodIn_app (goodIn_of _ (by decide +kernel)) ggL_count_X3_count
theorem dL_count_0 : decode cL_count 0 = .ok (.aload_n 2, 1) := by decide +kernel
theorem dL_count_1 : decode cL_count 1 = .ok (.iconst 0, 1) := by decide +kernel
theorem dL_count_2 : decode cL_count 2 = .ok (.aload_n 0, 1) := by decide +kernel
theorem dL_count_3 : decode cL_count 3 = .ok (.iload_n 1, 1) := by decide +kernel
theorem dL_count_4 : decode cL_count 4 = .ok (.invokevirtual 49, 3) := by decide +kernel
theorem dL_count_7 : decode cL_count 7 = .ok (.i2l, 1) := by decide +kernel
theorem dL_count_8 : decode cL_count 8 = .ok (.lastore, 1) := by decide +kernel
theorem dL_count_9 : decode cL_count 9 = .ok (.goto 6, 3) := by decide +kernel
theorem dL_count_12 : decode cL_count 12 = .ok (.astore_n 3, 1) := by decide +kernel
theorem dL_count_13 : decode cL_count 13 = .ok (.iconst 1, 1) := by decide +kernel
theorem dL_count_14 : decode cL_count 14 = .ok (.ireturn, 1) := by decide +kernel
theorem dL_count_15 : decode cL_count 15 = .ok (.iconst 0, 1) := by decide +kernel
theorem dL_count_16 : decode cL_count 16 = .ok (.ireturn, 1) := by decide +kernel
set_option maxRecDepth 20000 in
theorem ggL_moves_X3_moves : GoodIn wsL_moves wsX3_moves := goodIn_ca (goodIn_ca (goodIn_r _ [7, 8, 9, 10, 6, 11, 12, 13, 14, 15, 16, 17, 18, 19, 20, 21, 22, 23, 24, 25, 26, 27, 28, 29, 30, 31, 32, 33, 34, 35, 36, 37, 38, 39, 40, 41, 42, 43, 44, 45, 46, 47, 48, 49] (by decide +kernel) (by decide +kernel)) (goodIn_sub (fun _ h => List.mem_cons_of_mem _ (List.mem_append_left _ (List.mem_append_right _ h))) (by decide +kernel))) (goodIn_sub (fun _ h => List.mem_cons_of_mem _ (List.mem_append_right _ h)) (by decide +kernel))
set_option maxRecDepth 20000 in
theorem gL_moves_X3_moves : GoodIn wsL_moves (wsV RL 52 RX3 yX3_moves wsX3_moves) := goodIn_app (goodIn_of _ (by decide +kernel)) ggL_moves_X3_moves
theorem dL_moves_0 : decode cL_moves 0 = .ok (.aload_n 3, 1) := by decide +kernel
theorem dL_moves_1 : decode cL_moves 1 = .ok (.iconst 0, 1) := by decide +kernel
theorem dL_moves_2 : decode cL_moves 2 = .ok (.aload_n 0, 1) := by decide +kernel
theorem dL_moves_3 : decode cL_moves 3 = .ok (.iload_n 1, 1) := by decide +kernel
theorem dL_moves_4 : decode cL_moves 4 = .ok (.iload_n 2, 1) := by decide +kernel
theorem dL_moves_5 : decode cL_moves 5 = .ok (.invokevirtual 52, 3) := by decide +kernel
theorem dL_moves_8 : decode cL_moves 8 = .ok (.i2l, 1) := by decide +kernel
theorem dL_moves_9 : decode cL_moves 9 = .ok (.lastore, 1) := by decide +kernel
theorem dL_moves_10 : decode cL_moves 10 = .ok (.goto 11, 3) := by decide +kernel
theorem dL_moves_13 : decode cL_moves 13 = .ok (.astore 4, 2) := by decide +kernel
theorem dL_moves_15 : decode cL_moves 15 = .ok (.iconst 1, 1) := by decide +kernel
theorem dL_moves_16 : decode cL_moves 16 = .ok (.ireturn, 1) := by decide +kernel
theorem dL_moves_17 : decode cL_moves 17 = .ok (.astore 4, 2) := by decide +kernel
theorem dL_moves_19 : decode cL_moves 19 = .ok (.iconst 2, 1) := by decide +kernel
theorem dL_moves_20 : decode cL_moves 20 = .ok (.ireturn, 1) := by decide +kernel
theorem dL_moves_21 : decode cL_moves 21 = .ok (.iconst 0, 1) := by decide +kernel
theorem dL_moves_22 : decode cL_moves 22 = .ok (.ireturn, 1) := by decide +kernel
set_option maxRecDepth 20000 in
theorem ggL_ifAdded_X3_ifAdded : GoodIn wsL_ifAdded wsX3_ifAdded := goodIn_ca (goodIn_ca (goodIn_r _ [7, 8, 9, 10, 6, 11, 12, 13, 14, 15, 16, 17, 18, 19, 20, 21, 22, 23, 24, 25, 26, 27, 28, 29, 30, 31, 32, 33, 34, 35, 36, 37, 38, 39, 40, 41, 42, 43, 44, 45, 46, 47, 48, 49, 50, 51, 52, 53, 54, 55, 56, 57, 58, 59, 60, 61, 62, 63, 64, 65, 66, 67, 68] (by decide +kernel) (by decide +kernel)) (goodIn_sub (fun _ h => List.mem_cons_of_mem _ (List.mem_append_left _ (List.mem_append_right _ h))) (by decide +kernel))) (goodIn_sub (fun _ h => List.mem_cons_of_mem _ (List.mem_append_right _ h)) (by decide +kernel))
set_option maxRecDepth 20000 in
theorem gL_ifAdded_X3_ifAdded : GoodIn wsL_ifAdded (wsV RL 55 RX3 yX3_ifAdded wsX3_ifAdded) := goodIn_app (goodIn_of _ (by decide +kernel)) ggL_ifAdded_X3_ifAdded
theorem dL_ifAdded_0 : decode cL_ifAdded 0 = .ok (.aload_n 3, 1) := by decide +kernel
theorem dL_ifAdded_1 : decode cL_ifAdded 1 = .ok (.iconst 0, 1) := by decide +kernel
theorem dL_ifAdded_2 : decode cL_ifAdded 2 = .ok (.aload_n 0, 1) := by decide +kernel
theorem dL_ifAdded_3 : decode cL_ifAdded 3 = .ok (.iload_n 1, 1) := by decide +kernel
theorem dL_ifAdded_4 : decode cL_ifAdded 4 = .ok (.iload_n 2, 1) := by decide +kernel
theorem dL_ifAdded_5 : decode cL_ifAdded 5 = .ok (.invokevirtual 55, 3) := by decide +kernel
theorem dL_ifAdded_8 : decode cL_ifAdded 8 = .ok (.i2l, 1) := by decide +kernel
theorem dL_ifAdded_9 : decode cL_ifAdded 9 = .ok (.lastore, 1) := by decide +kernel
theorem dL_ifAdded_10 : decode cL_ifAdded 10 = .ok (.goto 11, 3) := by decide +kernel
theorem dL_ifAdded_13 : decode cL_ifAdded 13 = .ok (.astore 4, 2) := by decide +kernel
theorem dL_ifAdded_15 : decode cL_ifAdded 15 = .ok (.iconst 1, 1) := by decide +kernel
theorem dL_ifAdded_16 : decode cL_ifAdded 16 = .ok (.ireturn, 1) := by decide +kernel
theorem dL_ifAdded_17 : decode cL_ifAdded 17 = .ok (.astore 4, 2) := by decide +kernel
theorem dL_ifAdded_19 : decode cL_ifAdded 19 = .ok (.iconst 2, 1) := by decide +kernel
theorem dL_ifAdded_20 : decode cL_ifAdded 20 = .ok (.ireturn, 1) := by decide +kernel
theorem dL_ifAdded_21 : decode cL_ifAdded 21 = .ok (.iconst 0, 1) := by decide +kernel
theorem dL_ifAdded_22 : decode cL_ifAdded 22 = .ok (.ireturn, 1) := by decide +kernel
set_option maxRecDepth 20000 in
theorem ggL_toShow_X3_toShow : GoodIn wsL_toShow wsX3_toShow := goodIn_ca (goodIn_r _ [6, 7, 8, 9, 10, 5, 11, 12, 13, 14, 15, 16, 17, 18, 19, 20, 21, 22, 23, 24, 25, 26, 27, 28, 29, 30, 31, 32, 33, 34, 35, 36, 37, 38, 39, 40, 41, 42, 43, 44] (by decide +kernel) (by decide +kernel)) (goodIn_sub (fun _ h => List.mem_cons_of_mem _ (List.mem_append_right _ h)) (by decide +kernel))
set_option maxRecDepth 20000 in
theorem gL_toShow_X3_toShow : GoodIn wsL_toShow (wsV RL 58 RX3 yX3_toShow wsX3_toShow) := goodIn_app (goodIn_of _ (by decide +kernel)) ggL_toShow_X3_toShow
theorem dL_toShow_0 : decode cL_toShow 0 = .ok (.aload_n 2, 1) := by decide +kernel
theorem dL_toShow_1 : decode cL_toShow 1 = .ok (.iconst 0, 1) := by decide +kernel
theorem dL_toShow_2 : decode cL_toShow 2 = .ok (.aload_n 0, 1) := by decide +kernel
theorem dL_toShow_3 : decode cL_toShow 3 = .ok (.iload_n 1, 1) := by decide +kernel
theorem dL_toShow_4 : decode cL_toShow 4 = .ok (.invokevirtual 58, 3) := by decide +kernel
theorem dL_toShow_7 : decode cL_toShow 7 = .ok (.i2l, 1) := by decide +kernel
theorem dL_toShow_8 : decode cL_toShow 8 = .ok (.lastore, 1) := by decide +kernel
theorem dL_toShow_9 : decode cL_toShow 9 = .ok (.goto 6, 3) := by decide +kernel
theorem dL_toShow_12 : decode cL_toShow 12 = .ok (.astore_n 3, 1) := by decide +kernel
theorem dL_toShow_13 : decode cL_toShow 13 = .ok (.iconst 1, 1) := by decide +kernel
theorem dL_toShow_14 : decode cL_toShow 14 = .ok (.ireturn, 1) := by decide +kernel
theorem dL_toShow_15 : decode cL_toShow 15 = .ok (.iconst 0, 1) := by decide +kernel
theorem dL_toShow_16 : decode cL_toShow 16 = .ok (.ireturn, 1) := by decide +kernel
set_option maxRecDepth 20000 in
theorem ggL_law_X3_init : GoodIn wsL_law wsX3_init := goodIn_r _ [9, 10, 11, 12, 13, 14, 15, 16, 17, 18, 19, 20, 21, 22, 23, 24, 25, 26, 27, 28, 29, 30, 31, 32, 33, 34, 35, 36, 37, 38, 39, 40, 41, 42, 43, 44, 45, 46, 47, 48, 49, 50, 51, 614, 615, 616, 617, 618, 619, 620, 603, 604, 605, 621, 622, 623, 624, 625] (by decide +kernel) (by decide +kernel)
set_option maxRecDepth 20000 in
theorem gL_law_X3_init : GoodIn wsL_law (wsX3_init) := ggL_law_X3_init
set_option maxRecDepth 20000 in
theorem ggL_law_X4_init : GoodIn wsL_law wsX4_init := goodIn_r _ [54, 55, 11, 12, 29, 56, 57, 58, 59, 606, 607, 608, 609, 610, 611, 612, 613] (by decide +kernel) (by decide +kernel)
set_option maxRecDepth 20000 in
theorem gL_law_X4_init : GoodIn wsL_law (wsX4_init) := ggL_law_X4_init
set_option maxRecDepth 20000 in
theorem ggL_law_L_move : GoodIn wsL_law wsL_move := goodIn_ca (goodIn_ca (goodIn_ca (goodIn_r _ [63, 64, 65, 66, 67, 68, 69, 2, 70, 71, 72, 16, 20, 73, 74, 75, 76, 77, 78, 79, 80, 81, 82, 83, 84, 85, 15, 86, 30, 87, 88, 89, 90, 31, 32, 91, 92, 93, 19, 94, 44, 43, 42, 95, 96, 97, 98, 33, 34, 35, 36, 99, 100, 101, 102, 603, 604, 605, 614, 615, 616, 617, 618, 619, 620, 621, 622, 623] (by decide +kernel) (by decide +kernel)) (goodIn_sub (fun _ h => List.mem_append_left _ (List.mem_append_left _ (List.mem_append_right _ h))) (by decide +kernel))) (goodIn_sub (fun _ h => List.mem_append_left _ (List.mem_append_right _ h)) (by decide +kernel))) (goodIn_sub (fun _ h => List.mem_append_right _ h) (by decide +kernel))
set_option maxRecDepth 20000 in
theorem gL_law_L_move : GoodIn wsL_law (va_wsS RL 65 yL_move wsL_move) := goodIn_app (goodIn_of _ (by decide +kernel)) ggL_law_L_move
set_option maxRecDepth 20000 in
theorem ggL_law_X4_move : GoodIn wsL_law wsX4_move := goodIn_r _ [106, 107, 108, 5, 109, 110, 111, 112, 113, 114, 115, 116, 56, 117, 118, 119, 120, 121, 122, 123, 124, 125, 126, 127, 128, 129, 58, 130, 131, 132, 133, 134, 135, 136, 137, 138, 139, 140, 606, 607, 608, 609, 610, 611, 612, 613] (by decide +kernel) (by decide +kernel)
set_option maxRecDepth 20000 in
theorem gL_law_X4_move : GoodIn wsL_law (wsV RL 70 RX4 yX4_move wsX4_move) := goodIn_app (goodIn_of _ (by decide +kernel)) ggL_law_X4_move
set_option maxRecDepth 20000 in
theorem ggL_law_X4_thrown : GoodIn wsL_law wsX4_thrown := goodIn_r _ [144, 124, 606, 607, 608, 609, 610, 611, 612, 613] (by decide +kernel) (by decide +kernel)
set_option maxRecDepth 20000 in
theorem gL_law_X4_thrown : GoodIn wsL_law (wsV RL 71 RX4 yX4_thrown wsX4_thrown) := goodIn_app (goodIn_of _ (by decide +kernel)) ggL_law_X4_thrown
set_option maxRecDepth 20000 in
theorem ggL_law_L_stick : GoodIn wsL_law wsL_stick := goodIn_ca (goodIn_ca (goodIn_r _ [147, 64, 65, 148, 149, 150, 2, 151, 20, 16, 152, 73, 74, 75, 76, 77, 78, 79, 80, 81, 82, 91, 92, 93, 19, 94, 44, 43, 42, 95, 96, 97, 15, 98, 30, 31, 32, 33, 34, 35, 36, 603, 604, 605, 614, 615, 616, 617, 618, 619, 620, 621, 622, 623] (by decide +kernel) (by decide +kernel)) (goodIn_sub (fun _ h => List.mem_append_left _ (List.mem_append_right _ h)) (by decide +kernel))) (goodIn_sub (fun _ h => List.mem_append_right _ h) (by decide +kernel))
set_option maxRecDepth 20000 in
theorem gL_law_L_stick : GoodIn wsL_law (va_wsS RL 74 yL_stick wsL_stick) := goodIn_app (goodIn_of _ (by decide +kernel)) ggL_law_L_stick
set_option maxRecDepth 20000 in
theorem ggL_law_X4_stick : GoodIn wsL_law wsX4_stick := goodIn_r _ [156, 107, 108, 5, 109, 110, 111, 112, 120, 121, 122, 123, 124, 117, 118, 119, 157, 158, 159, 160, 56, 125, 126, 127, 128, 129, 58, 606, 607, 608, 609, 610, 611, 612, 613] (by decide +kernel) (by decide +kernel)
set_option maxRecDepth 20000 in
theorem gL_law_X4_stick : GoodIn wsL_law (wsV RL 77 RX4 yX4_stick wsX4_stick) := goodIn_app (goodIn_of _ (by decide +kernel)) ggL_law_X4_stick
set_option maxRecDepth 20000 in
theorem ggL_law_L_set : GoodIn wsL_law wsL_set := goodIn_ca (goodIn_r _ [163, 65, 164, 165, 166, 2, 167, 20, 16, 168, 78, 79, 80, 81, 82, 91, 92, 93, 19, 94, 44, 43, 42, 95, 96, 97, 15, 98, 30, 31, 32, 33, 34, 35, 36, 603, 604, 605, 614, 615, 616, 617, 618, 619, 620, 621, 622, 623] (by decide +kernel) (by decide +kernel)) (goodIn_sub (fun _ h => List.mem_append_right _ h) (by decide +kernel))
set_option maxRecDepth 20000 in
theorem gL_law_L_set : GoodIn wsL_law (va_wsS RL 78 yL_set wsL_set) := goodIn_app (goodIn_of _ (by decide +kernel)) ggL_law_L_set
set_option maxRecDepth 20000 in
theorem ggL_law_X4_set : GoodIn wsL_law wsX4_set := goodIn_r _ [172, 110, 111, 5, 112, 120, 121, 122, 123, 124, 157, 158, 159, 160, 56, 125, 126, 127, 128, 129, 58, 606, 607, 608, 609, 610, 611, 612, 613] (by decide +kernel) (by decide +kernel)
set_option maxRecDepth 20000 in
theorem gL_law_X4_set : GoodIn wsL_law (wsV RL 81 RX4 yX4_set wsX4_set) := goodIn_app (goodIn_of _ (by decide +kernel)) ggL_law_X4_set
set_option maxRecDepth 20000 in
theorem ggL_law_L_add : GoodIn wsL_law wsL_add := goodIn_ca (goodIn_ca (goodIn_ca (goodIn_r _ [175, 64, 65, 66, 176, 177, 178, 2, 179, 73, 74, 75, 76, 77, 78, 79, 80, 81, 82, 180, 181, 182, 183, 71, 72, 16, 20, 184, 185, 186, 15, 187, 188, 189, 190, 191, 30, 31, 192, 193, 194, 195, 196, 84, 85, 86, 87, 88, 89, 90, 32, 197, 100, 101, 102, 34, 198, 199, 200, 201, 202, 203, 204, 205, 33, 36, 35, 91, 92, 93, 19, 94, 44, 43, 42, 95, 96, 97, 98, 603, 604, 605, 614, 615, 616, 617, 618, 619, 620, 621, 622, 623] (by decide +kernel) (by decide +kernel)) (goodIn_sub (fun _ h => List.mem_append_left _ (List.mem_append_right _ h)) (by decide +kernel))) (goodIn_sub (fun _ h => List.mem_append_right _ h) (by decide +kernel))) (goodIn_sub (fun _ h => List.mem_append_left _ (List.mem_append_left _ (List.mem_append_right _ h))) (by decide +kernel))
set_option maxRecDepth 20000 in
theorem gL_law_L_add : GoodIn wsL_law (va_wsS RL 82 yL_add wsL_add) := goodIn_app (goodIn_of _ (by decide +kernel)) ggL_law_L_add
set_option maxRecDepth 20000 in
theorem ggL_law_X4_add : GoodIn wsL_law wsX4_add := goodIn_r _ [209, 107, 108, 5, 109, 110, 111, 112, 210, 211, 212, 213, 214, 215, 216, 217, 56, 117, 118, 119, 218, 219, 220, 221, 222, 223, 224, 225, 57, 226, 227, 228, 229, 230, 231, 232, 233, 234, 235, 236, 237, 238, 239, 240, 241, 113, 114, 115, 116, 134, 135, 136, 137, 138, 139, 140, 242, 243, 244, 245, 130, 131, 132, 133, 246, 247, 248, 249, 250, 251, 252, 253, 254, 255, 256, 257, 258, 259, 260, 261, 120, 121, 122, 123, 124, 262, 263, 264, 265, 125, 126, 127, 128, 129, 58, 606, 607, 608, 609, 610, 611, 612, 613] (by decide +kernel) (by decide +kernel)
set_option maxRecDepth 20000 in
theorem gL_law_X4_add : GoodIn wsL_law (wsV RL 84 RX4 yX4_add wsX4_add) := goodIn_app (goodIn_of _ (by decide +kernel)) ggL_law_X4_add
set_option maxRecDepth 20000 in
theorem ggL_law_L_less : GoodIn wsL_law wsL_less := goodIn_ca (goodIn_ca (goodIn_ca (goodIn_r _ [268, 64, 65, 66, 269, 270, 271, 2, 272, 73, 74, 75, 76, 77, 78, 79, 80, 81, 82, 180, 181, 182, 183, 71, 72, 16, 20, 184, 185, 186, 15, 187, 188, 189, 190, 191, 30, 31, 192, 193, 194, 195, 196, 84, 85, 86, 87, 88, 89, 90, 32, 197, 100, 101, 102, 34, 198, 199, 200, 201, 202, 203, 204, 205, 33, 36, 35, 91, 92, 93, 19, 94, 44, 43, 42, 95, 96, 97, 98, 603, 604, 605, 614, 615, 616, 617, 618, 619, 620, 621, 622, 623] (by decide +kernel) (by decide +kernel)) (goodIn_sub (fun _ h => List.mem_append_left _ (List.mem_append_right _ h)) (by decide +kernel))) (goodIn_sub (fun _ h => List.mem_append_right _ h) (by decide +kernel))) (goodIn_sub (fun _ h => List.mem_append_left _ (List.mem_append_left _ (List.mem_append_right _ h))) (by decide +kernel))
set_option maxRecDepth 20000 in
theorem gL_law_L_less : GoodIn wsL_law (va_wsS RL 85 yL_less wsL_less) := goodIn_app (goodIn_of _ (by decide +kernel)) ggL_law_L_less
set_option maxRecDepth 20000 in
theorem ggL_law_X4_less : GoodIn wsL_law wsX4_less := goodIn_r _ [276, 107, 108, 5, 109, 110, 111, 112, 210, 211, 212, 213, 214, 215, 216, 217, 56, 117, 118, 119, 218, 219, 220, 221, 222, 223, 224, 225, 57, 226, 227, 228, 229, 230, 231, 232, 233, 234, 235, 236, 237, 238, 239, 240, 241, 113, 114, 115, 116, 134, 135, 136, 137, 138, 139, 140, 242, 243, 244, 245, 130, 131, 132, 133, 246, 247, 248, 249, 250, 251, 252, 253, 254, 255, 256, 257, 258, 259, 260, 261, 120, 121, 122, 123, 124, 262, 263, 264, 265, 125, 126, 127, 128, 129, 58, 606, 607, 608, 609, 610, 611, 612, 613] (by decide +kernel) (by decide +kernel)
set_option maxRecDepth 20000 in
theorem gL_law_X4_less : GoodIn wsL_law (wsV RL 87 RX4 yX4_less wsX4_less) := goodIn_app (goodIn_of _ (by decide +kernel)) ggL_law_X4_less
set_option maxRecDepth 20000 in
theorem ggL_law_L_pay : GoodIn wsL_law wsL_pay := goodIn_ca (goodIn_ca (goodIn_r _ [279, 64, 66, 280, 281, 282, 2, 283, 71, 72, 16, 284, 20, 73, 74, 75, 76, 77, 184, 185, 186, 15, 187, 188, 189, 190, 191, 30, 31, 192, 193, 194, 195, 196, 84, 85, 86, 87, 88, 89, 90, 32, 197, 100, 101, 102, 34, 198, 199, 200, 201, 202, 203, 204, 205, 33, 36, 35, 91, 92, 93, 19, 94, 44, 43, 42, 95, 96, 97, 98, 285, 286, 287, 288, 289, 603, 604, 605, 614, 615, 616, 617, 618, 619, 620, 621, 622, 623] (by decide +kernel) (by decide +kernel)) (goodIn_sub (fun _ h => List.mem_append_left _ (List.mem_append_left _ (List.mem_append_right _ h))) (by decide +kernel))) (goodIn_sub (fun _ h => List.mem_append_left _ (List.mem_append_right _ h)) (by decide +kernel))
set_option maxRecDepth 20000 in
theorem gL_law_L_pay : GoodIn wsL_law (va_wsS RL 88 yL_pay wsL_pay) := goodIn_app (goodIn_of _ (by decide +kernel)) ggL_law_L_pay
set_option maxRecDepth 20000 in
theorem ggL_law_X4_pay : GoodIn wsL_law wsX4_pay := goodIn_r _ [293, 107, 108, 5, 109, 110, 111, 112, 210, 211, 212, 213, 214, 215, 216, 217, 56, 117, 118, 119, 218, 219, 220, 221, 222, 223, 224, 225, 57, 226, 227, 228, 229, 230, 231, 232, 233, 234, 235, 236, 237, 238, 239, 240, 241, 113, 114, 115, 116, 134, 135, 136, 137, 138, 139, 140, 242, 243, 244, 245, 130, 131, 132, 133, 246, 247, 248, 249, 250, 251, 252, 253, 254, 255, 256, 257, 258, 259, 260, 261, 120, 121, 122, 123, 124, 262, 263, 264, 265, 125, 126, 127, 128, 129, 58, 606, 607, 608, 609, 610, 611, 612, 613] (by decide +kernel) (by decide +kernel)
set_option maxRecDepth 20000 in
theorem gL_law_X4_pay : GoodIn wsL_law (wsV RL 90 RX4 yX4_pay wsX4_pay) := goodIn_app (goodIn_of _ (by decide +kernel)) ggL_law_X4_pay
set_option maxRecDepth 20000 in
theorem ggL_law_X3_tidy : GoodIn wsL_law wsX3_tidy := goodIn_r _ [297, 20, 16, 91, 92, 93, 19, 94, 44, 43, 42, 95, 96, 97, 15, 98, 30, 31, 32, 33, 34, 35, 36, 285, 286, 287, 288, 289, 185, 186, 187, 188, 189, 190, 191, 192, 193, 194, 195, 196, 84, 85, 86, 87, 88, 89, 90, 197, 100, 101, 102, 198, 199, 200, 201, 202, 203, 204, 205, 298, 299, 300, 301, 603, 604, 605, 621, 622, 623, 614, 615, 616, 617, 618, 619, 620] (by decide +kernel) (by decide +kernel)
set_option maxRecDepth 20000 in
theorem gL_law_X3_tidy : GoodIn wsL_law (wsV RL 91 RX3 yX3_tidy wsX3_tidy) := goodIn_app (goodIn_of _ (by decide +kernel)) ggL_law_X3_tidy
set_option maxRecDepth 20000 in
theorem ggL_law_X4_tidy : GoodIn wsL_law wsX4_tidy := goodIn_r _ [305, 124, 125, 126, 127, 5, 128, 129, 58, 56, 214, 215, 216, 217, 117, 118, 119, 218, 219, 220, 221, 222, 223, 224, 225, 57, 226, 227, 228, 229, 230, 231, 232, 233, 234, 235, 236, 237, 238, 239, 240, 241, 110, 111, 112, 113, 114, 115, 116, 134, 135, 136, 137, 138, 139, 140, 242, 243, 244, 245, 130, 131, 132, 133, 246, 247, 248, 249, 250, 251, 252, 253, 254, 255, 256, 257, 258, 259, 260, 261, 606, 607, 608, 609, 610, 611, 612, 613] (by decide +kernel) (by decide +kernel)
set_option maxRecDepth 20000 in
theorem gL_law_X4_tidy : GoodIn wsL_law (wsV RL 94 RX4 yX4_tidy wsX4_tidy) := goodIn_app (goodIn_of _ (by decide +kernel)) ggL_law_X4_tidy
set_option maxRecDepth 20000 in
theorem ggL_law_L_append : GoodIn wsL_law wsL_append := goodIn_ca (goodIn_ca (goodIn_r _ [308, 65, 66, 309, 310, 311, 2, 312, 71, 72, 24, 313, 314, 78, 79, 80, 81, 82, 603, 604, 605, 624, 625] (by decide +kernel) (by decide +kernel)) (goodIn_sub (fun _ h => List.mem_append_left _ (List.mem_append_left _ (List.mem_append_right _ h))) (by decide +kernel))) (goodIn_sub (fun _ h => List.mem_append_right _ h) (by decide +kernel))
set_option maxRecDepth 20000 in
theorem gL_law_L_append : GoodIn wsL_law (va_wsS RL 95 yL_append wsL_append) := goodIn_app (goodIn_of _ (by decide +kernel)) ggL_law_L_append
set_option maxRecDepth 20000 in
theorem ggL_law_X4_append : GoodIn wsL_law wsX4_append := goodIn_r _ [318, 319, 59, 110, 111, 5, 112, 120, 121, 122, 123, 124, 606, 607, 608, 609, 610, 611, 612, 613] (by decide +kernel) (by decide +kernel)
set_option maxRecDepth 20000 in
theorem gL_law_X4_append : GoodIn wsL_law (wsV RL 97 RX4 yX4_append wsX4_append) := goodIn_app (goodIn_of _ (by decide +kernel)) ggL_law_X4_append
set_option maxRecDepth 20000 in
theorem ggL_law_X3_clearBuffer : GoodIn wsL_law wsX3_clearBuffer := goodIn_r _ [323, 24, 313, 603, 604, 605, 624, 625] (by decide +kernel) (by decide +kernel)
set_option maxRecDepth 20000 in
theorem gL_law_X3_clearBuffer : GoodIn wsL_law (wsV RL 98 RX3 yX3_clearBuffer wsX3_clearBuffer) := goodIn_app (goodIn_of _ (by decide +kernel)) ggL_law_X3_clearBuffer
set_option maxRecDepth 20000 in
theorem ggL_law_X4_clearBuffer : GoodIn wsL_law wsX4_clearBuffer := goodIn_r _ [327, 124, 319, 606, 607, 608, 609, 610, 611, 612, 613] (by decide +kernel) (by decide +kernel)
set_option maxRecDepth 20000 in
theorem gL_law_X4_clearBuffer : GoodIn wsL_law (wsV RL 101 RX4 yX4_clearBuffer wsX4_clearBuffer) := goodIn_app (goodIn_of _ (by decide +kernel)) ggL_law_X4_clearBuffer
set_option maxRecDepth 20000 in
theorem ggL_law_X3_firstError : GoodIn wsL_law wsX3_firstError := goodIn_r _ [331, 24, 332, 333, 334, 23, 335, 51, 50, 336, 2, 337, 338, 339, 603, 604, 605, 624, 625] (by decide +kernel) (by decide +kernel)
set_option maxRecDepth 20000 in
theorem gL_law_X3_firstError : GoodIn wsL_law (wsV RL 102 RX3 yX3_firstError wsX3_firstError) := goodIn_app (goodIn_of _ (by decide +kernel)) ggL_law_X3_firstError
set_option maxRecDepth 20000 in
theorem ggL_law_X4_firstError : GoodIn wsL_law wsX4_firstError := goodIn_r _ [343, 124, 344, 345, 346, 5, 347, 319, 59, 110, 111, 112, 606, 607, 608, 609, 610, 611, 612, 613] (by decide +kernel) (by decide +kernel)
set_option maxRecDepth 20000 in
theorem gL_law_X4_firstError : GoodIn wsL_law (wsV RL 105 RX4 yX4_firstError wsX4_firstError) := goodIn_app (goodIn_of _ (by decide +kernel)) ggL_law_X4_firstError
set_option maxRecDepth 20000 in
theorem ggL_law_L_reckon : GoodIn wsL_law wsL_reckon := goodIn_ca (goodIn_r _ [350, 65, 351, 352, 353, 2, 354, 81, 82, 24, 20, 16, 313, 314, 355, 356, 357, 23, 358, 51, 50, 359, 333, 334, 335, 336, 337, 338, 339, 91, 92, 93, 19, 94, 44, 43, 42, 95, 96, 97, 15, 98, 30, 31, 32, 33, 34, 35, 36, 360, 361, 362, 363, 364, 365, 366, 367, 368, 184, 185, 186, 187, 188, 189, 190, 191, 192, 193, 194, 195, 196, 84, 85, 86, 87, 88, 89, 90, 197, 100, 101, 102, 198, 199, 200, 201, 202, 203, 204, 205, 603, 604, 605, 624, 625, 621, 622, 623, 614, 615, 616, 617, 618, 619, 620] (by decide +kernel) (by decide +kernel)) (goodIn_sub (fun _ h => List.mem_append_right _ h) (by decide +kernel))
set_option maxRecDepth 20000 in
theorem gL_law_L_reckon : GoodIn wsL_law (va_wsS RL 106 yL_reckon wsL_reckon) := goodIn_app (goodIn_of _ (by decide +kernel)) ggL_law_L_reckon
set_option maxRecDepth 20000 in
theorem ggL_law_X4_reckon : GoodIn wsL_law wsX4_reckon := goodIn_r _ [372, 319, 59, 344, 345, 346, 5, 347, 110, 111, 112, 120, 121, 122, 123, 124, 125, 126, 127, 128, 129, 58, 56, 373, 374, 375, 376, 377, 378, 379, 380, 218, 219, 220, 221, 222, 223, 224, 225, 57, 226, 227, 228, 229, 230, 231, 232, 233, 117, 118, 119, 234, 235, 236, 237, 238, 239, 240, 241, 113, 114, 115, 116, 134, 135, 136, 137, 138, 139, 140, 242, 243, 244, 245, 130, 131, 132, 133, 246, 247, 248, 249, 250, 251, 252, 253, 254, 255, 256, 257, 258, 259, 260, 261, 606, 607, 608, 609, 610, 611, 612, 613] (by decide +kernel) (by decide +kernel)
set_option maxRecDepth 20000 in
theorem gL_law_X4_reckon : GoodIn wsL_law (wsV RL 109 RX4 yX4_reckon wsX4_reckon) := goodIn_app (goodIn_of _ (by decide +kernel)) ggL_law_X4_reckon
set_option maxRecDepth 20000 in
theorem ggL_law_L_undo : GoodIn wsL_law wsL_undo := goodIn_ca (goodIn_r _ [383, 66, 384, 385, 386, 2, 387, 71, 72, 20, 388, 16, 389, 390, 391, 19, 392, 44, 42, 43, 95, 96, 97, 15, 98, 30, 31, 32, 33, 34, 35, 36, 603, 604, 605, 621, 622, 623, 614, 615, 616, 617, 618, 619, 620] (by decide +kernel) (by decide +kernel)) (goodIn_sub (fun _ h => List.mem_append_left _ (List.mem_append_left _ (List.mem_append_right _ h))) (by decide +kernel))
set_option maxRecDepth 20000 in
theorem gL_law_L_undo : GoodIn wsL_law (va_wsS RL 110 yL_undo wsL_undo) := goodIn_app (goodIn_of _ (by decide +kernel)) ggL_law_L_undo
set_option maxRecDepth 20000 in
theorem ggL_law_X4_undo : GoodIn wsL_law wsX4_undo := goodIn_r _ [396, 129, 56, 58, 120, 121, 122, 5, 123, 124, 606, 607, 608, 609, 610, 611, 612, 613] (by decide +kernel) (by decide +kernel)
set_option maxRecDepth 20000 in
theorem gL_law_X4_undo : GoodIn wsL_law (wsV RL 112 RX4 yX4_undo wsX4_undo) := goodIn_app (goodIn_of _ (by decide +kernel)) ggL_law_X4_undo
set_option maxRecDepth 20000 in
theorem ggL_law_L_rod : GoodIn wsL_law wsL_rod := goodIn_ca (goodIn_ca (goodIn_r _ [399, 64, 65, 400, 401, 402, 2, 403, 16, 404, 405, 284, 152, 406, 407, 73, 74, 75, 76, 77, 78, 79, 80, 81, 82, 408, 189, 190, 15, 191, 30, 31, 409, 410, 411, 412, 192, 193, 194, 195, 196, 84, 85, 86, 87, 88, 89, 90, 32, 197, 100, 101, 102, 34, 603, 604, 605, 614, 615, 616, 617, 618, 619, 620] (by decide +kernel) (by decide +kernel)) (goodIn_sub (fun _ h => List.mem_append_left _ (List.mem_append_right _ h)) (by decide +kernel))) (goodIn_sub (fun _ h => List.mem_append_right _ h) (by decide +kernel))
set_option maxRecDepth 20000 in
theorem gL_law_L_rod : GoodIn wsL_law (va_wsS RL 113 yL_rod wsL_rod) := goodIn_app (goodIn_of _ (by decide +kernel)) ggL_law_L_rod
set_option maxRecDepth 20000 in
theorem ggL_law_X4_rod : GoodIn wsL_law wsX4_rod := goodIn_r _ [416, 107, 108, 5, 109, 110, 111, 112, 120, 121, 122, 123, 124, 417, 418, 419, 420, 56, 117, 118, 119, 230, 231, 232, 233, 421, 422, 423, 424, 234, 235, 236, 237, 238, 239, 240, 241, 113, 114, 115, 116, 134, 135, 136, 137, 138, 139, 140, 606, 607, 608, 609, 610, 611, 612, 613] (by decide +kernel) (by decide +kernel)
set_option maxRecDepth 20000 in
theorem gL_law_X4_rod : GoodIn wsL_law (wsV RL 115 RX4 yX4_rod wsX4_rod) := goodIn_app (goodIn_of _ (by decide +kernel)) ggL_law_X4_rod
set_option maxRecDepth 20000 in
theorem ggL_law_X3_whole : GoodIn wsL_law wsX3_whole := goodIn_r _ [428, 16, 284, 429, 408, 189, 190, 15, 191, 30, 31, 603, 604, 605, 614, 615, 616, 617, 618, 619, 620] (by decide +kernel) (by decide +kernel)
set_option maxRecDepth 20000 in
theorem gL_law_X3_whole : GoodIn wsL_law (wsV RL 116 RX3 yX3_whole wsX3_whole) := goodIn_app (goodIn_of _ (by decide +kernel)) ggL_law_X3_whole
set_option maxRecDepth 20000 in
theorem ggL_law_X4_whole : GoodIn wsL_law wsX4_whole := goodIn_r _ [433, 124, 434, 435, 436, 5, 437, 438, 56, 230, 231, 232, 233, 117, 118, 119, 606, 607, 608, 609, 610, 611, 612, 613] (by decide +kernel) (by decide +kernel)
set_option maxRecDepth 20000 in
theorem gL_law_X4_whole : GoodIn wsL_law (wsV RL 120 RX4 yX4_whole wsX4_whole) := goodIn_app (goodIn_of _ (by decide +kernel)) ggL_law_X4_whole
set_option maxRecDepth 20000 in
theorem ggL_law_L_count : GoodIn wsL_law wsL_count := goodIn_ca (goodIn_r _ [441, 65, 442, 443, 444, 2, 445, 16, 168, 20, 388, 78, 79, 80, 81, 82, 446, 447, 448, 15, 449, 34, 450, 451, 452, 453, 33, 454, 455, 456, 457, 458, 459, 460, 461, 188, 189, 190, 191, 30, 31, 462, 463, 464, 465, 466, 467, 468, 469, 470, 471, 472, 473, 32, 603, 604, 605, 614, 615, 616, 617, 618, 619, 620, 621, 622, 623] (by decide +kernel) (by decide +kernel)) (goodIn_sub (fun _ h => List.mem_append_right _ h) (by decide +kernel))
set_option maxRecDepth 20000 in
theorem gL_law_L_count : GoodIn wsL_law (va_wsS RL 121 yL_count wsL_count) := goodIn_app (goodIn_of _ (by decide +kernel)) ggL_law_L_count
set_option maxRecDepth 20000 in
theorem ggL_law_X4_count : GoodIn wsL_law wsX4_count := goodIn_r _ [477, 110, 111, 5, 112, 120, 121, 122, 123, 124, 478, 479, 480, 481, 56, 129, 214, 215, 216, 217, 117, 118, 119, 482, 483, 484, 485, 230, 231, 232, 233, 606, 607, 608, 609, 610, 611, 612, 613] (by decide +kernel) (by decide +kernel)
set_option maxRecDepth 20000 in
theorem gL_law_X4_count : GoodIn wsL_law (wsV RL 123 RX4 yX4_count wsX4_count) := goodIn_app (goodIn_of _ (by decide +kernel)) ggL_law_X4_count
set_option maxRecDepth 20000 in
theorem ggL_law_L_moves : GoodIn wsL_law wsL_moves := goodIn_ca (goodIn_ca (goodIn_r _ [488, 64, 65, 489, 490, 491, 2, 492, 16, 73, 74, 75, 76, 77, 78, 79, 80, 81, 82, 493, 193, 194, 15, 195, 196, 84, 85, 86, 30, 87, 88, 89, 90, 31, 32, 197, 100, 101, 102, 34, 603, 604, 605, 614, 615, 616, 617, 618, 619, 620] (by decide +kernel) (by decide +kernel)) (goodIn_sub (fun _ h => List.mem_append_left _ (List.mem_append_right _ h)) (by decide +kernel))) (goodIn_sub (fun _ h => List.mem_append_right _ h) (by decide +kernel))
set_option maxRecDepth 20000 in
theorem gL_law_L_moves : GoodIn wsL_law (va_wsS RL 124 yL_moves wsL_moves) := goodIn_app (goodIn_of _ (by decide +kernel)) ggL_law_L_moves
set_option maxRecDepth 20000 in
theorem ggL_law_X4_moves : GoodIn wsL_law wsX4_moves := goodIn_r _ [497, 107, 108, 5, 109, 110, 111, 112, 120, 121, 122, 123, 124, 498, 499, 500, 501, 238, 239, 240, 241, 113, 114, 115, 116, 56, 117, 118, 119, 134, 135, 136, 137, 138, 139, 140, 606, 607, 608, 609, 610, 611, 612, 613] (by decide +kernel) (by decide +kernel)
set_option maxRecDepth 20000 in
theorem gL_law_X4_moves : GoodIn wsL_law (wsV RL 126 RX4 yX4_moves wsX4_moves) := goodIn_app (goodIn_of _ (by decide +kernel)) ggL_law_X4_moves
set_option maxRecDepth 20000 in
theorem ggL_law_L_ifAdded : GoodIn wsL_law wsL_ifAdded := goodIn_ca (goodIn_ca (goodIn_r _ [504, 64, 65, 505, 506, 507, 2, 508, 16, 73, 74, 75, 76, 77, 78, 79, 80, 81, 82, 184, 185, 186, 15, 187, 188, 189, 190, 191, 30, 31, 192, 193, 194, 195, 196, 84, 85, 86, 87, 88, 89, 90, 32, 197, 100, 101, 102, 34, 198, 199, 200, 201, 202, 203, 204, 205, 33, 36, 35, 603, 604, 605, 614, 615, 616, 617, 618, 619, 620] (by decide +kernel) (by decide +kernel)) (goodIn_sub (fun _ h => List.mem_append_left _ (List.mem_append_right _ h)) (by decide +kernel))) (goodIn_sub (fun _ h => List.mem_append_right _ h) (by decide +kernel))
set_option maxRecDepth 20000 in
theorem gL_law_L_ifAdded : GoodIn wsL_law (va_wsS RL 127 yL_ifAdded wsL_ifAdded) := goodIn_app (goodIn_of _ (by decide +kernel)) ggL_law_L_ifAdded
set_option maxRecDepth 20000 in
theorem ggL_law_X4_ifAdded : GoodIn wsL_law wsX4_ifAdded := goodIn_r _ [512, 107, 108, 5, 109, 110, 111, 112, 120, 121, 122, 123, 124, 210, 211, 212, 213, 214, 215, 216, 217, 56, 117, 118, 119, 218, 219, 220, 221, 222, 223, 224, 225, 57, 226, 227, 228, 229, 230, 231, 232, 233, 234, 235, 236, 237, 238, 239, 240, 241, 113, 114, 115, 116, 134, 135, 136, 137, 138, 139, 140, 242, 243, 244, 245, 130, 131, 132, 133, 246, 247, 248, 249, 250, 251, 252, 253, 254, 255, 256, 257, 258, 259, 260, 261, 606, 607, 608, 609, 610, 611, 612, 613] (by decide +kernel) (by decide +kernel)
set_option maxRecDepth 20000 in
theorem gL_law_X4_ifAdded : GoodIn wsL_law (wsV RL 129 RX4 yX4_ifAdded wsX4_ifAdded) := goodIn_app (goodIn_of _ (by decide +kernel)) ggL_law_X4_ifAdded
set_option maxRecDepth 20000 in
theorem ggL_law_L_toShow : GoodIn wsL_law wsL_toShow := goodIn_ca (goodIn_r _ [515, 65, 516, 517, 518, 2, 519, 520, 16, 78, 79, 80, 81, 82, 493, 193, 194, 15, 195, 196, 84, 85, 86, 30, 87, 88, 89, 90, 31, 32, 197, 100, 101, 102, 34, 603, 604, 605, 614, 615, 616, 617, 618, 619, 620] (by decide +kernel) (by decide +kernel)) (goodIn_sub (fun _ h => List.mem_append_right _ h) (by decide +kernel))
set_option maxRecDepth 20000 in
theorem gL_law_L_toShow : GoodIn wsL_law (va_wsS RL 130 yL_toShow wsL_toShow) := goodIn_app (goodIn_of _ (by decide +kernel)) ggL_law_L_toShow
set_option maxRecDepth 20000 in
theorem ggL_law_X4_toShow : GoodIn wsL_law wsX4_toShow := goodIn_r _ [524, 525, 110, 111, 5, 112, 120, 121, 122, 123, 124, 526, 527, 528, 529, 498, 499, 500, 501, 238, 239, 240, 241, 113, 114, 115, 116, 56, 117, 118, 119, 134, 135, 136, 137, 138, 139, 140, 606, 607, 608, 609, 610, 611, 612, 613] (by decide +kernel) (by decide +kernel)
set_option maxRecDepth 20000 in
theorem gL_law_X4_toShow : GoodIn wsL_law (wsV RL 132 RX4 yX4_toShow wsX4_toShow) := goodIn_app (goodIn_of _ (by decide +kernel)) ggL_law_X4_toShow
set_option maxRecDepth 20000 in
theorem ggL_law_X3_cheapestLoan : GoodIn wsL_law wsX3_cheapestLoan := goodIn_r _ [533, 16, 284, 184, 185, 186, 15, 187, 188, 189, 190, 191, 30, 31, 192, 193, 194, 195, 196, 84, 85, 86, 87, 88, 89, 90, 32, 197, 100, 101, 102, 34, 198, 199, 200, 201, 202, 203, 204, 205, 33, 36, 35, 603, 604, 605, 614, 615, 616, 617, 618, 619, 620] (by decide +kernel) (by decide +kernel)
set_option maxRecDepth 20000 in
theorem gL_law_X3_cheapestLoan : GoodIn wsL_law (wsV RL 133 RX3 yX3_cheapestLoan wsX3_cheapestLoan) := goodIn_app (goodIn_of _ (by decide +kernel)) ggL_law_X3_cheapestLoan
set_option maxRecDepth 20000 in
theorem ggL_law_X4_cheapestLoan : GoodIn wsL_law wsX4_cheapestLoan := goodIn_r _ [537, 124, 538, 539, 540, 5, 541, 56, 117, 118, 119, 210, 211, 212, 213, 214, 215, 216, 217, 218, 219, 220, 221, 222, 223, 224, 225, 57, 226, 227, 228, 229, 230, 231, 232, 233, 234, 235, 236, 237, 238, 239, 240, 241, 110, 111, 112, 113, 114, 115, 116, 134, 135, 136, 137, 138, 139, 140, 242, 243, 244, 245, 130, 131, 132, 133, 246, 247, 248, 249, 250, 251, 252, 253, 254, 255, 256, 257, 258, 259, 260, 261, 606, 607, 608, 609, 610, 611, 612, 613] (by decide +kernel) (by decide +kernel)
set_option maxRecDepth 20000 in
theorem gL_law_X4_cheapestLoan : GoodIn wsL_law (wsV RL 136 RX4 yX4_cheapestLoan wsX4_cheapestLoan) := goodIn_app (goodIn_of _ (by decide +kernel)) ggL_law_X4_cheapestLoan
set_option maxRecDepth 20000 in
theorem ggL_law_X3_looseness : GoodIn wsL_law wsX3_looseness := goodIn_r _ [545, 16, 546, 409, 410, 411, 15, 412, 192, 193, 194, 195, 196, 84, 85, 86, 30, 87, 88, 89, 90, 31, 32, 197, 100, 101, 102, 34, 603, 604, 605, 614, 615, 616, 617, 618, 619, 620] (by decide +kernel) (by decide +kernel)
end
section
set_option maxRecDepth 20000 in
theorem gL_law_X3_looseness : GoodIn wsL_law (wsV RL 137 RX3 yX3_looseness wsX3_looseness) := goodIn_app (goodIn_of _ (by decide +kernel)) ggL_law_X3_looseness
set_option maxRecDepth 20000 in
theorem ggL_law_X4_looseness : GoodIn wsL_law wsX4_looseness := goodIn_r _ [550, 124, 551, 552, 553, 5, 554, 555, 421, 422, 423, 424, 234, 235, 236, 237, 238, 239, 240, 241, 110, 111, 112, 113, 114, 115, 116, 56, 117, 118, 119, 134, 135, 136, 137, 138, 139, 140, 606, 607, 608, 609, 610, 611, 612, 613] (by decide +kernel) (by decide +kernel)
set_option maxRecDepth 20000 in
theorem gL_law_X4_looseness : GoodIn wsL_law (wsV RL 141 RX4 yX4_looseness wsX4_looseness) := goodIn_app (goodIn_of _ (by decide +kernel)) ggL_law_X4_looseness
set_option maxRecDepth 20000 in
theorem ggL_law_X3_digest : GoodIn wsL_law wsX3_digest := goodIn_ca (goodIn_ca (goodIn_r _ [559, 560, 561, 24, 313, 314, 562, 443, 444, 2, 445, 16, 168, 20, 388, 78, 79, 80, 81, 82, 446, 447, 448, 15, 449, 34, 450, 451, 452, 453, 33, 454, 455, 456, 457, 458, 459, 460, 461, 188, 189, 190, 191, 30, 31, 462, 463, 464, 465, 466, 467, 468, 469, 470, 471, 472, 473, 32, 563, 564, 565, 566, 567, 426, 427, 428, 284, 429, 408, 568, 401, 402, 403, 404, 405, 152, 406, 407, 73, 74, 75, 76, 77, 409, 410, 411, 412, 192, 193, 194, 195, 196, 84, 85, 86, 87, 88, 89, 90, 197, 100, 101, 102, 569, 490, 491, 492, 493, 570, 506, 507, 508, 184, 185, 186, 187, 198, 199, 200, 201, 202, 203, 204, 205, 36, 35, 571, 517, 518, 519, 520, 572, 531, 532, 533, 573, 543, 544, 545, 546, 574, 575, 576, 577, 578, 579, 603, 604, 605, 624, 625, 614, 615, 616, 617, 618, 619, 620, 621, 622, 623] (by decide +kernel) (by decide +kernel)) (goodIn_sub (fun _ h => List.mem_append_right _ h) (by decide +kernel))) (goodIn_sub (fun _ h => List.mem_append_left _ (List.mem_append_right _ h)) (by decide +kernel))
set_option maxRecDepth 20000 in
theorem gL_law_X3_digest : GoodIn wsL_law (wsV RL 142 RX3 yX3_digest wsX3_digest) := goodIn_app (goodIn_of _ (by decide +kernel)) ggL_law_X3_digest
set_option maxRecDepth 20000 in
theorem ggL_law_X4_digest : GoodIn wsL_law wsX4_digest := goodIn_r _ [583, 124, 584, 585, 586, 319, 59, 478, 479, 480, 5, 481, 56, 129, 214, 215, 216, 217, 117, 118, 119, 482, 483, 484, 485, 230, 231, 232, 233, 587, 588, 589, 590, 591, 434, 435, 436, 437, 438, 592, 593, 594, 595, 417, 418, 419, 420, 421, 422, 423, 424, 234, 235, 236, 237, 238, 239, 240, 241, 110, 111, 112, 113, 114, 115, 116, 134, 135, 136, 137, 138, 139, 140, 498, 499, 500, 501, 210, 211, 212, 213, 218, 219, 220, 221, 222, 223, 224, 225, 57, 226, 227, 228, 229, 242, 243, 244, 245, 130, 131, 132, 133, 246, 247, 248, 249, 250, 251, 252, 253, 254, 255, 256, 257, 258, 259, 260, 261, 526, 527, 528, 529, 538, 539, 540, 541, 551, 552, 553, 554, 555, 596, 597, 598, 599, 600, 601, 602, 606, 607, 608, 609, 610, 611, 612, 613] (by decide +kernel) (by decide +kernel)
set_option maxRecDepth 20000 in
theorem gL_law_X4_digest : GoodIn wsL_law (wsV RL 145 RX4 yX4_digest wsX4_digest) := goodIn_app (goodIn_of _ (by decide +kernel)) ggL_law_X4_digest
theorem dL_law_0 : decode cL_law 0 = .ok (.new 8, 3) := by decide +kernel
theorem dL_law_3 : decode cL_law 3 = .ok (.dup, 1) := by decide +kernel
theorem dL_law_4 : decode cL_law 4 = .ok (.invokespecial 61, 3) := by decide +kernel
theorem dL_law_7 : decode cL_law 7 = .ok (.astore_n 1, 1) := by decide +kernel
theorem dL_law_8 : decode cL_law 8 = .ok (.new 62, 3) := by decide +kernel
theorem dL_law_11 : decode cL_law 11 = .ok (.dup, 1) := by decide +kernel
theorem dL_law_12 : decode cL_law 12 = .ok (.invokespecial 64, 3) := by decide +kernel
theorem dL_law_15 : decode cL_law 15 = .ok (.astore_n 2, 1) := by decide +kernel
theorem dL_law_16 : decode cL_law 16 = .ok (.iconst 1, 1) := by decide +kernel
theorem dL_law_17 : decode cL_law 17 = .ok (.newarray .long, 2) := by decide +kernel
theorem dL_law_19 : decode cL_law 19 = .ok (.astore_n 3, 1) := by decide +kernel
theorem dL_law_20 : decode cL_law 20 = .ok (.iconst 0, 1) := by decide +kernel
theorem dL_law_21 : decode cL_law 21 = .ok (.istore 4, 2) := by decide +kernel
theorem dL_law_23 : decode cL_law 23 = .ok (.iload 4, 2) := by decide +kernel
theorem dL_law_25 : decode cL_law 25 = .ok (.aload_n 0, 1) := by decide +kernel
theorem dL_law_26 : decode cL_law 26 = .ok (.arraylength, 1) := by decide +kernel
theorem dL_law_27 : decode cL_law 27 = .ok (.iconst 4, 1) := by decide +kernel
theorem dL_law_28 : decode cL_law 28 = .ok (.isub, 1) := by decide +kernel
theorem dL_law_29 : decode cL_law 29 = .ok (.if_icmp .gt 1090, 3) := by decide +kernel
theorem dL_law_32 : decode cL_law 32 = .ok (.aload_n 0, 1) := by decide +kernel
theorem dL_law_33 : decode cL_law 33 = .ok (.iload 4, 2) := by decide +kernel
theorem dL_law_35 : decode cL_law 35 = .ok (.iaload, 1) := by decide +kernel
theorem dL_law_36 : decode cL_law 36 = .ok (.bipush 31, 2) := by decide +kernel
theorem dL_law_38 : decode cL_law 38 = .ok (.iand, 1) := by decide +kernel
theorem dL_law_39 : decode cL_law 39 = .ok (.tableswitch 1074 0 20 #[97, 177, 245, 301, 369, 437, 493, 506, 562, 575, 588, 632, 676, 744, 758, 814, 882, 950, 1006, 1019, 1060], 97) := by decide +kernel
theorem dL_law_136 : decode cL_law 136 = .ok (.aload_n 1, 1) := by decide +kernel
theorem dL_law_137 : decode cL_law 137 = .ok (.aload_n 0, 1) := by decide +kernel
theorem dL_law_138 : decode cL_law 138 = .ok (.iload 4, 2) := by decide +kernel
theorem dL_law_140 : decode cL_law 140 = .ok (.iconst 1, 1) := by decide +kernel
theorem dL_law_141 : decode cL_law 141 = .ok (.iadd, 1) := by decide +kernel
theorem dL_law_142 : decode cL_law 142 = .ok (.iaload, 1) := by decide +kernel
theorem dL_law_143 : decode cL_law 143 = .ok (.aload_n 0, 1) := by decide +kernel
theorem dL_law_144 : decode cL_law 144 = .ok (.iload 4, 2) := by decide +kernel
theorem dL_law_146 : decode cL_law 146 = .ok (.iconst 2, 1) := by decide +kernel
theorem dL_law_147 : decode cL_law 147 = .ok (.iadd, 1) := by decide +kernel
theorem dL_law_148 : decode cL_law 148 = .ok (.iaload, 1) := by decide +kernel
theorem dL_law_149 : decode cL_law 149 = .ok (.aload_n 0, 1) := by decide +kernel
theorem dL_law_150 : decode cL_law 150 = .ok (.iload 4, 2) := by decide +kernel
theorem dL_law_152 : decode cL_law 152 = .ok (.iconst 3, 1) := by decide +kernel
theorem dL_law_153 : decode cL_law 153 = .ok (.iadd, 1) := by decide +kernel
theorem dL_law_154 : decode cL_law 154 = .ok (.iaload, 1) := by decide +kernel
theorem dL_law_155 : decode cL_law 155 = .ok (.aload_n 3, 1) := by decide +kernel
theorem dL_law_156 : decode cL_law 156 = .ok (.invokestatic 65, 3) := by decide +kernel
theorem dL_law_159 : decode cL_law 159 = .ok (.istore 5, 2) := by decide +kernel
theorem dL_law_161 : decode cL_law 161 = .ok (.aload_n 2, 1) := by decide +kernel
theorem dL_law_162 : decode cL_law 162 = .ok (.aload_n 0, 1) := by decide +kernel
theorem dL_law_163 : decode cL_law 163 = .ok (.iload 4, 2) := by decide +kernel
theorem dL_law_165 : decode cL_law 165 = .ok (.iconst 1, 1) := by decide +kernel
theorem dL_law_166 : decode cL_law 166 = .ok (.iadd, 1) := by decide +kernel
theorem dL_law_167 : decode cL_law 167 = .ok (.iaload, 1) := by decide +kernel
theorem dL_law_168 : decode cL_law 168 = .ok (.aload_n 0, 1) := by decide +kernel
theorem dL_law_169 : decode cL_law 169 = .ok (.iload 4, 2) := by decide +kernel
theorem dL_law_171 : decode cL_law 171 = .ok (.iconst 2, 1) := by decide +kernel
theorem dL_law_172 : decode cL_law 172 = .ok (.iadd, 1) := by decide +kernel
theorem dL_law_173 : decode cL_law 173 = .ok (.iaload, 1) := by decide +kernel
theorem dL_law_174 : decode cL_law 174 = .ok (.aload_n 0, 1) := by decide +kernel
theorem dL_law_175 : decode cL_law 175 = .ok (.iload 4, 2) := by decide +kernel
theorem dL_law_177 : decode cL_law 177 = .ok (.iconst 3, 1) := by decide +kernel
theorem dL_law_178 : decode cL_law 178 = .ok (.iadd, 1) := by decide +kernel
theorem dL_law_179 : decode cL_law 179 = .ok (.iaload, 1) := by decide +kernel
theorem dL_law_180 : decode cL_law 180 = .ok (.invokevirtual 70, 3) := by decide +kernel
theorem dL_law_183 : decode cL_law 183 = .ok (.istore 6, 2) := by decide +kernel
theorem dL_law_185 : decode cL_law 185 = .ok (.aload_n 2, 1) := by decide +kernel
theorem dL_law_186 : decode cL_law 186 = .ok (.invokevirtual 71, 3) := by decide +kernel
theorem dL_law_189 : decode cL_law 189 = .ok (.iload 5, 2) := by decide +kernel
theorem dL_law_191 : decode cL_law 191 = .ok (.if_icmp .eq 5, 3) := by decide +kernel
theorem dL_law_194 : decode cL_law 194 = .ok (.iconst 0, 1) := by decide +kernel
theorem dL_law_195 : decode cL_law 195 = .ok (.ireturn, 1) := by decide +kernel
theorem dL_law_196 : decode cL_law 196 = .ok (.iload 5, 2) := by decide +kernel
theorem dL_law_198 : decode cL_law 198 = .ok (.ifCond .ne 15, 3) := by decide +kernel
theorem dL_law_201 : decode cL_law 201 = .ok (.aload_n 3, 1) := by decide +kernel
theorem dL_law_202 : decode cL_law 202 = .ok (.iconst 0, 1) := by decide +kernel
theorem dL_law_203 : decode cL_law 203 = .ok (.laload, 1) := by decide +kernel
theorem dL_law_204 : decode cL_law 204 = .ok (.iload 6, 2) := by decide +kernel
theorem dL_law_206 : decode cL_law 206 = .ok (.i2l, 1) := by decide +kernel
theorem dL_law_207 : decode cL_law 207 = .ok (.lcmp, 1) := by decide +kernel
theorem dL_law_208 : decode cL_law 208 = .ok (.ifCond .eq 5, 3) := by decide +kernel
theorem dL_law_211 : decode cL_law 211 = .ok (.iconst 0, 1) := by decide +kernel
theorem dL_law_212 : decode cL_law 212 = .ok (.ireturn, 1) := by decide +kernel
theorem dL_law_213 : decode cL_law 213 = .ok (.goto 900, 3) := by decide +kernel
theorem dL_law_216 : decode cL_law 216 = .ok (.aload_n 1, 1) := by decide +kernel
theorem dL_law_217 : decode cL_law 217 = .ok (.aload_n 0, 1) := by decide +kernel
theorem dL_law_218 : decode cL_law 218 = .ok (.iload 4, 2) := by decide +kernel
theorem dL_law_220 : decode cL_law 220 = .ok (.iconst 1, 1) := by decide +kernel
theorem dL_law_221 : decode cL_law 221 = .ok (.iadd, 1) := by decide +kernel
theorem dL_law_222 : decode cL_law 222 = .ok (.iaload, 1) := by decide +kernel
theorem dL_law_223 : decode cL_law 223 = .ok (.aload_n 0, 1) := by decide +kernel
theorem dL_law_224 : decode cL_law 224 = .ok (.iload 4, 2) := by decide +kernel
theorem dL_law_226 : decode cL_law 226 = .ok (.iconst 2, 1) := by decide +kernel
theorem dL_law_227 : decode cL_law 227 = .ok (.iadd, 1) := by decide +kernel
theorem dL_law_228 : decode cL_law 228 = .ok (.iaload, 1) := by decide +kernel
theorem dL_law_229 : decode cL_law 229 = .ok (.aload_n 3, 1) := by decide +kernel
theorem dL_law_230 : decode cL_law 230 = .ok (.invokestatic 74, 3) := by decide +kernel
theorem dL_law_233 : decode cL_law 233 = .ok (.istore 5, 2) := by decide +kernel
theorem dL_law_235 : decode cL_law 235 = .ok (.aload_n 2, 1) := by decide +kernel
theorem dL_law_236 : decode cL_law 236 = .ok (.aload_n 0, 1) := by decide +kernel
theorem dL_law_237 : decode cL_law 237 = .ok (.iload 4, 2) := by decide +kernel
theorem dL_law_239 : decode cL_law 239 = .ok (.iconst 1, 1) := by decide +kernel
theorem dL_law_240 : decode cL_law 240 = .ok (.iadd, 1) := by decide +kernel
theorem dL_law_241 : decode cL_law 241 = .ok (.iaload, 1) := by decide +kernel
theorem dL_law_242 : decode cL_law 242 = .ok (.aload_n 0, 1) := by decide +kernel
theorem dL_law_243 : decode cL_law 243 = .ok (.iload 4, 2) := by decide +kernel
theorem dL_law_245 : decode cL_law 245 = .ok (.iconst 2, 1) := by decide +kernel
theorem dL_law_246 : decode cL_law 246 = .ok (.iadd, 1) := by decide +kernel
theorem dL_law_247 : decode cL_law 247 = .ok (.iaload, 1) := by decide +kernel
theorem dL_law_248 : decode cL_law 248 = .ok (.invokevirtual 77, 3) := by decide +kernel
theorem dL_law_251 : decode cL_law 251 = .ok (.istore 6, 2) := by decide +kernel
theorem dL_law_253 : decode cL_law 253 = .ok (.aload_n 2, 1) := by decide +kernel
theorem dL_law_254 : decode cL_law 254 = .ok (.invokevirtual 71, 3) := by decide +kernel
theorem dL_law_257 : decode cL_law 257 = .ok (.iload 5, 2) := by decide +kernel
theorem dL_law_259 : decode cL_law 259 = .ok (.if_icmp .eq 5, 3) := by decide +kernel
theorem dL_law_262 : decode cL_law 262 = .ok (.iconst 0, 1) := by decide +kernel
theorem dL_law_263 : decode cL_law 263 = .ok (.ireturn, 1) := by decide +kernel
theorem dL_law_264 : decode cL_law 264 = .ok (.iload 5, 2) := by decide +kernel
theorem dL_law_266 : decode cL_law 266 = .ok (.ifCond .ne 15, 3) := by decide +kernel
theorem dL_law_269 : decode cL_law 269 = .ok (.aload_n 3, 1) := by decide +kernel
theorem dL_law_270 : decode cL_law 270 = .ok (.iconst 0, 1) := by decide +kernel
theorem dL_law_271 : decode cL_law 271 = .ok (.laload, 1) := by decide +kernel
theorem dL_law_272 : decode cL_law 272 = .ok (.iload 6, 2) := by decide +kernel
theorem dL_law_274 : decode cL_law 274 = .ok (.i2l, 1) := by decide +kernel
theorem dL_law_275 : decode cL_law 275 = .ok (.lcmp, 1) := by decide +kernel
theorem dL_law_276 : decode cL_law 276 = .ok (.ifCond .eq 5, 3) := by decide +kernel
theorem dL_law_279 : decode cL_law 279 = .ok (.iconst 0, 1) := by decide +kernel
theorem dL_law_280 : decode cL_law 280 = .ok (.ireturn, 1) := by decide +kernel
theorem dL_law_281 : decode cL_law 281 = .ok (.goto 832, 3) := by decide +kernel
theorem dL_law_284 : decode cL_law 284 = .ok (.aload_n 1, 1) := by decide +kernel
theorem dL_law_285 : decode cL_law 285 = .ok (.aload_n 0, 1) := by decide +kernel
theorem dL_law_286 : decode cL_law 286 = .ok (.iload 4, 2) := by decide +kernel
theorem dL_law_288 : decode cL_law 288 = .ok (.iconst 1, 1) := by decide +kernel
theorem dL_law_289 : decode cL_law 289 = .ok (.iadd, 1) := by decide +kernel
theorem dL_law_290 : decode cL_law 290 = .ok (.iaload, 1) := by decide +kernel
theorem dL_law_291 : decode cL_law 291 = .ok (.aload_n 3, 1) := by decide +kernel
theorem dL_law_292 : decode cL_law 292 = .ok (.invokestatic 78, 3) := by decide +kernel
theorem dL_law_295 : decode cL_law 295 = .ok (.istore 5, 2) := by decide +kernel
theorem dL_law_297 : decode cL_law 297 = .ok (.aload_n 2, 1) := by decide +kernel
theorem dL_law_298 : decode cL_law 298 = .ok (.aload_n 0, 1) := by decide +kernel
theorem dL_law_299 : decode cL_law 299 = .ok (.iload 4, 2) := by decide +kernel
theorem dL_law_301 : decode cL_law 301 = .ok (.iconst 1, 1) := by decide +kernel
theorem dL_law_302 : decode cL_law 302 = .ok (.iadd, 1) := by decide +kernel
theorem dL_law_303 : decode cL_law 303 = .ok (.iaload, 1) := by decide +kernel
theorem dL_law_304 : decode cL_law 304 = .ok (.invokevirtual 81, 3) := by decide +kernel
theorem dL_law_307 : decode cL_law 307 = .ok (.istore 6, 2) := by decide +kernel
theorem dL_law_309 : decode cL_law 309 = .ok (.aload_n 2, 1) := by decide +kernel
theorem dL_law_310 : decode cL_law 310 = .ok (.invokevirtual 71, 3) := by decide +kernel
theorem dL_law_313 : decode cL_law 313 = .ok (.iload 5, 2) := by decide +kernel
theorem dL_law_315 : decode cL_law 315 = .ok (.if_icmp .eq 5, 3) := by decide +kernel
theorem dL_law_318 : decode cL_law 318 = .ok (.iconst 0, 1) := by decide +kernel
theorem dL_law_319 : decode cL_law 319 = .ok (.ireturn, 1) := by decide +kernel
theorem dL_law_320 : decode cL_law 320 = .ok (.iload 5, 2) := by decide +kernel
theorem dL_law_322 : decode cL_law 322 = .ok (.ifCond .ne 15, 3) := by decide +kernel
theorem dL_law_325 : decode cL_law 325 = .ok (.aload_n 3, 1) := by decide +kernel
theorem dL_law_326 : decode cL_law 326 = .ok (.iconst 0, 1) := by decide +kernel
theorem dL_law_327 : decode cL_law 327 = .ok (.laload, 1) := by decide +kernel
theorem dL_law_328 : decode cL_law 328 = .ok (.iload 6, 2) := by decide +kernel
theorem dL_law_330 : decode cL_law 330 = .ok (.i2l, 1) := by decide +kernel
theorem dL_law_331 : decode cL_law 331 = .ok (.lcmp, 1) := by decide +kernel
theorem dL_law_332 : decode cL_law 332 = .ok (.ifCond .eq 5, 3) := by decide +kernel
theorem dL_law_335 : decode cL_law 335 = .ok (.iconst 0, 1) := by decide +kernel
theorem dL_law_336 : decode cL_law 336 = .ok (.ireturn, 1) := by decide +kernel
theorem dL_law_337 : decode cL_law 337 = .ok (.goto 776, 3) := by decide +kernel
theorem dL_law_340 : decode cL_law 340 = .ok (.aload_n 1, 1) := by decide +kernel
theorem dL_law_341 : decode cL_law 341 = .ok (.aload_n 0, 1) := by decide +kernel
theorem dL_law_342 : decode cL_law 342 = .ok (.iload 4, 2) := by decide +kernel
theorem dL_law_344 : decode cL_law 344 = .ok (.iconst 1, 1) := by decide +kernel
theorem dL_law_345 : decode cL_law 345 = .ok (.iadd, 1) := by decide +kernel
theorem dL_law_346 : decode cL_law 346 = .ok (.iaload, 1) := by decide +kernel
theorem dL_law_347 : decode cL_law 347 = .ok (.aload_n 0, 1) := by decide +kernel
theorem dL_law_348 : decode cL_law 348 = .ok (.iload 4, 2) := by decide +kernel
theorem dL_law_350 : decode cL_law 350 = .ok (.iconst 2, 1) := by decide +kernel
theorem dL_law_351 : decode cL_law 351 = .ok (.iadd, 1) := by decide +kernel
theorem dL_law_352 : decode cL_law 352 = .ok (.iaload, 1) := by decide +kernel
theorem dL_law_353 : decode cL_law 353 = .ok (.aload_n 3, 1) := by decide +kernel
theorem dL_law_354 : decode cL_law 354 = .ok (.invokestatic 82, 3) := by decide +kernel
theorem dL_law_357 : decode cL_law 357 = .ok (.istore 5, 2) := by decide +kernel
theorem dL_law_359 : decode cL_law 359 = .ok (.aload_n 2, 1) := by decide +kernel
theorem dL_law_360 : decode cL_law 360 = .ok (.aload_n 0, 1) := by decide +kernel
theorem dL_law_361 : decode cL_law 361 = .ok (.iload 4, 2) := by decide +kernel
theorem dL_law_363 : decode cL_law 363 = .ok (.iconst 1, 1) := by decide +kernel
theorem dL_law_364 : decode cL_law 364 = .ok (.iadd, 1) := by decide +kernel
theorem dL_law_365 : decode cL_law 365 = .ok (.iaload, 1) := by decide +kernel
theorem dL_law_366 : decode cL_law 366 = .ok (.aload_n 0, 1) := by decide +kernel
theorem dL_law_367 : decode cL_law 367 = .ok (.iload 4, 2) := by decide +kernel
theorem dL_law_369 : decode cL_law 369 = .ok (.iconst 2, 1) := by decide +kernel
theorem dL_law_370 : decode cL_law 370 = .ok (.iadd, 1) := by decide +kernel
theorem dL_law_371 : decode cL_law 371 = .ok (.iaload, 1) := by decide +kernel
theorem dL_law_372 : decode cL_law 372 = .ok (.invokevirtual 84, 3) := by decide +kernel
theorem dL_law_375 : decode cL_law 375 = .ok (.istore 6, 2) := by decide +kernel
theorem dL_law_377 : decode cL_law 377 = .ok (.aload_n 2, 1) := by decide +kernel
theorem dL_law_378 : decode cL_law 378 = .ok (.invokevirtual 71, 3) := by decide +kernel
theorem dL_law_381 : decode cL_law 381 = .ok (.iload 5, 2) := by decide +kernel
theorem dL_law_383 : decode cL_law 383 = .ok (.if_icmp .eq 5, 3) := by decide +kernel
theorem dL_law_386 : decode cL_law 386 = .ok (.iconst 0, 1) := by decide +kernel
theorem dL_law_387 : decode cL_law 387 = .ok (.ireturn, 1) := by decide +kernel
theorem dL_law_388 : decode cL_law 388 = .ok (.iload 5, 2) := by decide +kernel
theorem dL_law_390 : decode cL_law 390 = .ok (.ifCond .ne 15, 3) := by decide +kernel
theorem dL_law_393 : decode cL_law 393 = .ok (.aload_n 3, 1) := by decide +kernel
theorem dL_law_394 : decode cL_law 394 = .ok (.iconst 0, 1) := by decide +kernel
theorem dL_law_395 : decode cL_law 395 = .ok (.laload, 1) := by decide +kernel
theorem dL_law_396 : decode cL_law 396 = .ok (.iload 6, 2) := by decide +kernel
theorem dL_law_398 : decode cL_law 398 = .ok (.i2l, 1) := by decide +kernel
theorem dL_law_399 : decode cL_law 399 = .ok (.lcmp, 1) := by decide +kernel
theorem dL_law_400 : decode cL_law 400 = .ok (.ifCond .eq 5, 3) := by decide +kernel
theorem dL_law_403 : decode cL_law 403 = .ok (.iconst 0, 1) := by decide +kernel
theorem dL_law_404 : decode cL_law 404 = .ok (.ireturn, 1) := by decide +kernel
theorem dL_law_405 : decode cL_law 405 = .ok (.goto 708, 3) := by decide +kernel
theorem dL_law_408 : decode cL_law 408 = .ok (.aload_n 1, 1) := by decide +kernel
theorem dL_law_409 : decode cL_law 409 = .ok (.aload_n 0, 1) := by decide +kernel
theorem dL_law_410 : decode cL_law 410 = .ok (.iload 4, 2) := by decide +kernel
theorem dL_law_412 : decode cL_law 412 = .ok (.iconst 1, 1) := by decide +kernel
theorem dL_law_413 : decode cL_law 413 = .ok (.iadd, 1) := by decide +kernel
theorem dL_law_414 : decode cL_law 414 = .ok (.iaload, 1) := by decide +kernel
theorem dL_law_415 : decode cL_law 415 = .ok (.aload_n 0, 1) := by decide +kernel
theorem dL_law_416 : decode cL_law 416 = .ok (.iload 4, 2) := by decide +kernel
theorem dL_law_418 : decode cL_law 418 = .ok (.iconst 2, 1) := by decide +kernel
theorem dL_law_419 : decode cL_law 419 = .ok (.iadd, 1) := by decide +kernel
theorem dL_law_420 : decode cL_law 420 = .ok (.iaload, 1) := by decide +kernel
theorem dL_law_421 : decode cL_law 421 = .ok (.aload_n 3, 1) := by decide +kernel
theorem dL_law_422 : decode cL_law 422 = .ok (.invokestatic 85, 3) := by decide +kernel
theorem dL_law_425 : decode cL_law 425 = .ok (.istore 5, 2) := by decide +kernel
theorem dL_law_427 : decode cL_law 427 = .ok (.aload_n 2, 1) := by decide +kernel
theorem dL_law_428 : decode cL_law 428 = .ok (.aload_n 0, 1) := by decide +kernel
theorem dL_law_429 : decode cL_law 429 = .ok (.iload 4, 2) := by decide +kernel
theorem dL_law_431 : decode cL_law 431 = .ok (.iconst 1, 1) := by decide +kernel
theorem dL_law_432 : decode cL_law 432 = .ok (.iadd, 1) := by decide +kernel
theorem dL_law_433 : decode cL_law 433 = .ok (.iaload, 1) := by decide +kernel
theorem dL_law_434 : decode cL_law 434 = .ok (.aload_n 0, 1) := by decide +kernel
theorem dL_law_435 : decode cL_law 435 = .ok (.iload 4, 2) := by decide +kernel
theorem dL_law_437 : decode cL_law 437 = .ok (.iconst 2, 1) := by decide +kernel
theorem dL_law_438 : decode cL_law 438 = .ok (.iadd, 1) := by decide +kernel
theorem dL_law_439 : decode cL_law 439 = .ok (.iaload, 1) := by decide +kernel
theorem dL_law_440 : decode cL_law 440 = .ok (.invokevirtual 87, 3) := by decide +kernel
theorem dL_law_443 : decode cL_law 443 = .ok (.istore 6, 2) := by decide +kernel
theorem dL_law_445 : decode cL_law 445 = .ok (.aload_n 2, 1) := by decide +kernel
theorem dL_law_446 : decode cL_law 446 = .ok (.invokevirtual 71, 3) := by decide +kernel
theorem dL_law_449 : decode cL_law 449 = .ok (.iload 5, 2) := by decide +kernel
theorem dL_law_451 : decode cL_law 451 = .ok (.if_icmp .eq 5, 3) := by decide +kernel
theorem dL_law_454 : decode cL_law 454 = .ok (.iconst 0, 1) := by decide +kernel
theorem dL_law_455 : decode cL_law 455 = .ok (.ireturn, 1) := by decide +kernel
theorem dL_law_456 : decode cL_law 456 = .ok (.iload 5, 2) := by decide +kernel
theorem dL_law_458 : decode cL_law 458 = .ok (.ifCond .ne 15, 3) := by decide +kernel
theorem dL_law_461 : decode cL_law 461 = .ok (.aload_n 3, 1) := by decide +kernel
theorem dL_law_462 : decode cL_law 462 = .ok (.iconst 0, 1) := by decide +kernel
theorem dL_law_463 : decode cL_law 463 = .ok (.laload, 1) := by decide +kernel
theorem dL_law_464 : decode cL_law 464 = .ok (.iload 6, 2) := by decide +kernel
theorem dL_law_466 : decode cL_law 466 = .ok (.i2l, 1) := by decide +kernel
theorem dL_law_467 : decode cL_law 467 = .ok (.lcmp, 1) := by decide +kernel
theorem dL_law_468 : decode cL_law 468 = .ok (.ifCond .eq 5, 3) := by decide +kernel
theorem dL_law_471 : decode cL_law 471 = .ok (.iconst 0, 1) := by decide +kernel
theorem dL_law_472 : decode cL_law 472 = .ok (.ireturn, 1) := by decide +kernel
theorem dL_law_473 : decode cL_law 473 = .ok (.goto 640, 3) := by decide +kernel
theorem dL_law_476 : decode cL_law 476 = .ok (.aload_n 1, 1) := by decide +kernel
theorem dL_law_477 : decode cL_law 477 = .ok (.aload_n 0, 1) := by decide +kernel
theorem dL_law_478 : decode cL_law 478 = .ok (.iload 4, 2) := by decide +kernel
theorem dL_law_480 : decode cL_law 480 = .ok (.iconst 1, 1) := by decide +kernel
theorem dL_law_481 : decode cL_law 481 = .ok (.iadd, 1) := by decide +kernel
theorem dL_law_482 : decode cL_law 482 = .ok (.iaload, 1) := by decide +kernel
theorem dL_law_483 : decode cL_law 483 = .ok (.aload_n 3, 1) := by decide +kernel
theorem dL_law_484 : decode cL_law 484 = .ok (.invokestatic 88, 3) := by decide +kernel
theorem dL_law_487 : decode cL_law 487 = .ok (.istore 5, 2) := by decide +kernel
theorem dL_law_489 : decode cL_law 489 = .ok (.aload_n 2, 1) := by decide +kernel
theorem dL_law_490 : decode cL_law 490 = .ok (.aload_n 0, 1) := by decide +kernel
theorem dL_law_491 : decode cL_law 491 = .ok (.iload 4, 2) := by decide +kernel
theorem dL_law_493 : decode cL_law 493 = .ok (.iconst 1, 1) := by decide +kernel
theorem dL_law_494 : decode cL_law 494 = .ok (.iadd, 1) := by decide +kernel
theorem dL_law_495 : decode cL_law 495 = .ok (.iaload, 1) := by decide +kernel
theorem dL_law_496 : decode cL_law 496 = .ok (.invokevirtual 90, 3) := by decide +kernel
theorem dL_law_499 : decode cL_law 499 = .ok (.istore 6, 2) := by decide +kernel
theorem dL_law_501 : decode cL_law 501 = .ok (.aload_n 2, 1) := by decide +kernel
theorem dL_law_502 : decode cL_law 502 = .ok (.invokevirtual 71, 3) := by decide +kernel
theorem dL_law_505 : decode cL_law 505 = .ok (.iload 5, 2) := by decide +kernel
theorem dL_law_507 : decode cL_law 507 = .ok (.if_icmp .eq 5, 3) := by decide +kernel
theorem dL_law_510 : decode cL_law 510 = .ok (.iconst 0, 1) := by decide +kernel
theorem dL_law_511 : decode cL_law 511 = .ok (.ireturn, 1) := by decide +kernel
theorem dL_law_512 : decode cL_law 512 = .ok (.iload 5, 2) := by decide +kernel
theorem dL_law_514 : decode cL_law 514 = .ok (.ifCond .ne 15, 3) := by decide +kernel
theorem dL_law_517 : decode cL_law 517 = .ok (.aload_n 3, 1) := by decide +kernel
theorem dL_law_518 : decode cL_law 518 = .ok (.iconst 0, 1) := by decide +kernel
theorem dL_law_519 : decode cL_law 519 = .ok (.laload, 1) := by decide +kernel
theorem dL_law_520 : decode cL_law 520 = .ok (.iload 6, 2) := by decide +kernel
theorem dL_law_522 : decode cL_law 522 = .ok (.i2l, 1) := by decide +kernel
theorem dL_law_523 : decode cL_law 523 = .ok (.lcmp, 1) := by decide +kernel
theorem dL_law_524 : decode cL_law 524 = .ok (.ifCond .eq 5, 3) := by decide +kernel
theorem dL_law_527 : decode cL_law 527 = .ok (.iconst 0, 1) := by decide +kernel
theorem dL_law_528 : decode cL_law 528 = .ok (.ireturn, 1) := by decide +kernel
theorem dL_law_529 : decode cL_law 529 = .ok (.goto 584, 3) := by decide +kernel
theorem dL_law_532 : decode cL_law 532 = .ok (.aload_n 1, 1) := by decide +kernel
theorem dL_law_533 : decode cL_law 533 = .ok (.invokevirtual 91, 3) := by decide +kernel
theorem dL_law_536 : decode cL_law 536 = .ok (.aload_n 2, 1) := by decide +kernel
theorem dL_law_537 : decode cL_law 537 = .ok (.invokevirtual 94, 3) := by decide +kernel
theorem dL_law_540 : decode cL_law 540 = .ok (.if_icmp .eq 573, 3) := by decide +kernel
theorem dL_law_543 : decode cL_law 543 = .ok (.iconst 0, 1) := by decide +kernel
theorem dL_law_544 : decode cL_law 544 = .ok (.ireturn, 1) := by decide +kernel
theorem dL_law_545 : decode cL_law 545 = .ok (.aload_n 1, 1) := by decide +kernel
theorem dL_law_546 : decode cL_law 546 = .ok (.aload_n 0, 1) := by decide +kernel
theorem dL_law_547 : decode cL_law 547 = .ok (.iload 4, 2) := by decide +kernel
theorem dL_law_549 : decode cL_law 549 = .ok (.iconst 1, 1) := by decide +kernel
theorem dL_law_550 : decode cL_law 550 = .ok (.iadd, 1) := by decide +kernel
theorem dL_law_551 : decode cL_law 551 = .ok (.iaload, 1) := by decide +kernel
theorem dL_law_552 : decode cL_law 552 = .ok (.aload_n 3, 1) := by decide +kernel
theorem dL_law_553 : decode cL_law 553 = .ok (.invokestatic 95, 3) := by decide +kernel
theorem dL_law_556 : decode cL_law 556 = .ok (.istore 5, 2) := by decide +kernel
theorem dL_law_558 : decode cL_law 558 = .ok (.aload_n 2, 1) := by decide +kernel
theorem dL_law_559 : decode cL_law 559 = .ok (.aload_n 0, 1) := by decide +kernel
theorem dL_law_560 : decode cL_law 560 = .ok (.iload 4, 2) := by decide +kernel
theorem dL_law_562 : decode cL_law 562 = .ok (.iconst 1, 1) := by decide +kernel
theorem dL_law_563 : decode cL_law 563 = .ok (.iadd, 1) := by decide +kernel
theorem dL_law_564 : decode cL_law 564 = .ok (.iaload, 1) := by decide +kernel
theorem dL_law_565 : decode cL_law 565 = .ok (.invokevirtual 97, 3) := by decide +kernel
theorem dL_law_568 : decode cL_law 568 = .ok (.istore 6, 2) := by decide +kernel
theorem dL_law_570 : decode cL_law 570 = .ok (.aload_n 2, 1) := by decide +kernel
theorem dL_law_571 : decode cL_law 571 = .ok (.invokevirtual 71, 3) := by decide +kernel
theorem dL_law_574 : decode cL_law 574 = .ok (.iload 5, 2) := by decide +kernel
theorem dL_law_576 : decode cL_law 576 = .ok (.if_icmp .eq 5, 3) := by decide +kernel
theorem dL_law_579 : decode cL_law 579 = .ok (.iconst 0, 1) := by decide +kernel
theorem dL_law_580 : decode cL_law 580 = .ok (.ireturn, 1) := by decide +kernel
theorem dL_law_581 : decode cL_law 581 = .ok (.iload 5, 2) := by decide +kernel
theorem dL_law_583 : decode cL_law 583 = .ok (.ifCond .ne 15, 3) := by decide +kernel
theorem dL_law_586 : decode cL_law 586 = .ok (.aload_n 3, 1) := by decide +kernel
theorem dL_law_587 : decode cL_law 587 = .ok (.iconst 0, 1) := by decide +kernel
theorem dL_law_588 : decode cL_law 588 = .ok (.laload, 1) := by decide +kernel
theorem dL_law_589 : decode cL_law 589 = .ok (.iload 6, 2) := by decide +kernel
theorem dL_law_591 : decode cL_law 591 = .ok (.i2l, 1) := by decide +kernel
theorem dL_law_592 : decode cL_law 592 = .ok (.lcmp, 1) := by decide +kernel
theorem dL_law_593 : decode cL_law 593 = .ok (.ifCond .eq 5, 3) := by decide +kernel
theorem dL_law_596 : decode cL_law 596 = .ok (.iconst 0, 1) := by decide +kernel
theorem dL_law_597 : decode cL_law 597 = .ok (.ireturn, 1) := by decide +kernel
theorem dL_law_598 : decode cL_law 598 = .ok (.goto 515, 3) := by decide +kernel
theorem dL_law_601 : decode cL_law 601 = .ok (.aload_n 1, 1) := by decide +kernel
theorem dL_law_602 : decode cL_law 602 = .ok (.invokevirtual 98, 3) := by decide +kernel
theorem dL_law_605 : decode cL_law 605 = .ok (.aload_n 2, 1) := by decide +kernel
theorem dL_law_606 : decode cL_law 606 = .ok (.invokevirtual 101, 3) := by decide +kernel
theorem dL_law_609 : decode cL_law 609 = .ok (.if_icmp .eq 504, 3) := by decide +kernel
theorem dL_law_612 : decode cL_law 612 = .ok (.iconst 0, 1) := by decide +kernel
theorem dL_law_613 : decode cL_law 613 = .ok (.ireturn, 1) := by decide +kernel
theorem dL_law_614 : decode cL_law 614 = .ok (.aload_n 1, 1) := by decide +kernel
theorem dL_law_615 : decode cL_law 615 = .ok (.invokevirtual 102, 3) := by decide +kernel
theorem dL_law_618 : decode cL_law 618 = .ok (.aload_n 2, 1) := by decide +kernel
theorem dL_law_619 : decode cL_law 619 = .ok (.invokevirtual 105, 3) := by decide +kernel
theorem dL_law_622 : decode cL_law 622 = .ok (.if_icmp .eq 491, 3) := by decide +kernel
theorem dL_law_625 : decode cL_law 625 = .ok (.iconst 0, 1) := by decide +kernel
theorem dL_law_626 : decode cL_law 626 = .ok (.ireturn, 1) := by decide +kernel
theorem dL_law_627 : decode cL_law 627 = .ok (.aload_n 1, 1) := by decide +kernel
theorem dL_law_628 : decode cL_law 628 = .ok (.aload_n 3, 1) := by decide +kernel
theorem dL_law_629 : decode cL_law 629 = .ok (.invokestatic 106, 3) := by decide +kernel
theorem dL_law_632 : decode cL_law 632 = .ok (.istore 5, 2) := by decide +kernel
theorem dL_law_634 : decode cL_law 634 = .ok (.aload_n 2, 1) := by decide +kernel
theorem dL_law_635 : decode cL_law 635 = .ok (.invokevirtual 109, 3) := by decide +kernel
theorem dL_law_638 : decode cL_law 638 = .ok (.istore 6, 2) := by decide +kernel
theorem dL_law_640 : decode cL_law 640 = .ok (.aload_n 2, 1) := by decide +kernel
theorem dL_law_641 : decode cL_law 641 = .ok (.invokevirtual 71, 3) := by decide +kernel
theorem dL_law_644 : decode cL_law 644 = .ok (.iload 5, 2) := by decide +kernel
theorem dL_law_646 : decode cL_law 646 = .ok (.if_icmp .eq 5, 3) := by decide +kernel
theorem dL_law_649 : decode cL_law 649 = .ok (.iconst 0, 1) := by decide +kernel
theorem dL_law_650 : decode cL_law 650 = .ok (.ireturn, 1) := by decide +kernel
theorem dL_law_651 : decode cL_law 651 = .ok (.iload 5, 2) := by decide +kernel
theorem dL_law_653 : decode cL_law 653 = .ok (.ifCond .ne 15, 3) := by decide +kernel
theorem dL_law_656 : decode cL_law 656 = .ok (.aload_n 3, 1) := by decide +kernel
theorem dL_law_657 : decode cL_law 657 = .ok (.iconst 0, 1) := by decide +kernel
theorem dL_law_658 : decode cL_law 658 = .ok (.laload, 1) := by decide +kernel
theorem dL_law_659 : decode cL_law 659 = .ok (.iload 6, 2) := by decide +kernel
theorem dL_law_661 : decode cL_law 661 = .ok (.i2l, 1) := by decide +kernel
theorem dL_law_662 : decode cL_law 662 = .ok (.lcmp, 1) := by decide +kernel
theorem dL_law_663 : decode cL_law 663 = .ok (.ifCond .eq 5, 3) := by decide +kernel
theorem dL_law_666 : decode cL_law 666 = .ok (.iconst 0, 1) := by decide +kernel
theorem dL_law_667 : decode cL_law 667 = .ok (.ireturn, 1) := by decide +kernel
theorem dL_law_668 : decode cL_law 668 = .ok (.goto 445, 3) := by decide +kernel
theorem dL_law_671 : decode cL_law 671 = .ok (.aload_n 1, 1) := by decide +kernel
theorem dL_law_672 : decode cL_law 672 = .ok (.aload_n 3, 1) := by decide +kernel
theorem dL_law_673 : decode cL_law 673 = .ok (.invokestatic 110, 3) := by decide +kernel
theorem dL_law_676 : decode cL_law 676 = .ok (.istore 5, 2) := by decide +kernel
theorem dL_law_678 : decode cL_law 678 = .ok (.aload_n 2, 1) := by decide +kernel
theorem dL_law_679 : decode cL_law 679 = .ok (.invokevirtual 112, 3) := by decide +kernel
theorem dL_law_682 : decode cL_law 682 = .ok (.istore 6, 2) := by decide +kernel
theorem dL_law_684 : decode cL_law 684 = .ok (.aload_n 2, 1) := by decide +kernel
theorem dL_law_685 : decode cL_law 685 = .ok (.invokevirtual 71, 3) := by decide +kernel
theorem dL_law_688 : decode cL_law 688 = .ok (.iload 5, 2) := by decide +kernel
theorem dL_law_690 : decode cL_law 690 = .ok (.if_icmp .eq 5, 3) := by decide +kernel
theorem dL_law_693 : decode cL_law 693 = .ok (.iconst 0, 1) := by decide +kernel
theorem dL_law_694 : decode cL_law 694 = .ok (.ireturn, 1) := by decide +kernel
theorem dL_law_695 : decode cL_law 695 = .ok (.iload 5, 2) := by decide +kernel
theorem dL_law_697 : decode cL_law 697 = .ok (.ifCond .ne 15, 3) := by decide +kernel
theorem dL_law_700 : decode cL_law 700 = .ok (.aload_n 3, 1) := by decide +kernel
theorem dL_law_701 : decode cL_law 701 = .ok (.iconst 0, 1) := by decide +kernel
theorem dL_law_702 : decode cL_law 702 = .ok (.laload, 1) := by decide +kernel
theorem dL_law_703 : decode cL_law 703 = .ok (.iload 6, 2) := by decide +kernel
theorem dL_law_705 : decode cL_law 705 = .ok (.i2l, 1) := by decide +kernel
theorem dL_law_706 : decode cL_law 706 = .ok (.lcmp, 1) := by decide +kernel
theorem dL_law_707 : decode cL_law 707 = .ok (.ifCond .eq 5, 3) := by decide +kernel
theorem dL_law_710 : decode cL_law 710 = .ok (.iconst 0, 1) := by decide +kernel
theorem dL_law_711 : decode cL_law 711 = .ok (.ireturn, 1) := by decide +kernel
theorem dL_law_712 : decode cL_law 712 = .ok (.goto 401, 3) := by decide +kernel
theorem dL_law_715 : decode cL_law 715 = .ok (.aload_n 1, 1) := by decide +kernel
theorem dL_law_716 : decode cL_law 716 = .ok (.aload_n 0, 1) := by decide +kernel
theorem dL_law_717 : decode cL_law 717 = .ok (.iload 4, 2) := by decide +kernel
theorem dL_law_719 : decode cL_law 719 = .ok (.iconst 1, 1) := by decide +kernel
theorem dL_law_720 : decode cL_law 720 = .ok (.iadd, 1) := by decide +kernel
theorem dL_law_721 : decode cL_law 721 = .ok (.iaload, 1) := by decide +kernel
theorem dL_law_722 : decode cL_law 722 = .ok (.aload_n 0, 1) := by decide +kernel
theorem dL_law_723 : decode cL_law 723 = .ok (.iload 4, 2) := by decide +kernel
theorem dL_law_725 : decode cL_law 725 = .ok (.iconst 2, 1) := by decide +kernel
theorem dL_law_726 : decode cL_law 726 = .ok (.iadd, 1) := by decide +kernel
theorem dL_law_727 : decode cL_law 727 = .ok (.iaload, 1) := by decide +kernel
theorem dL_law_728 : decode cL_law 728 = .ok (.aload_n 3, 1) := by decide +kernel
theorem dL_law_729 : decode cL_law 729 = .ok (.invokestatic 113, 3) := by decide +kernel
theorem dL_law_732 : decode cL_law 732 = .ok (.istore 5, 2) := by decide +kernel
theorem dL_law_734 : decode cL_law 734 = .ok (.aload_n 2, 1) := by decide +kernel
theorem dL_law_735 : decode cL_law 735 = .ok (.aload_n 0, 1) := by decide +kernel
theorem dL_law_736 : decode cL_law 736 = .ok (.iload 4, 2) := by decide +kernel
theorem dL_law_738 : decode cL_law 738 = .ok (.iconst 1, 1) := by decide +kernel
theorem dL_law_739 : decode cL_law 739 = .ok (.iadd, 1) := by decide +kernel
theorem dL_law_740 : decode cL_law 740 = .ok (.iaload, 1) := by decide +kernel
theorem dL_law_741 : decode cL_law 741 = .ok (.aload_n 0, 1) := by decide +kernel
theorem dL_law_742 : decode cL_law 742 = .ok (.iload 4, 2) := by decide +kernel
theorem dL_law_744 : decode cL_law 744 = .ok (.iconst 2, 1) := by decide +kernel
theorem dL_law_745 : decode cL_law 745 = .ok (.iadd, 1) := by decide +kernel
theorem dL_law_746 : decode cL_law 746 = .ok (.iaload, 1) := by decide +kernel
theorem dL_law_747 : decode cL_law 747 = .ok (.invokevirtual 115, 3) := by decide +kernel
theorem dL_law_750 : decode cL_law 750 = .ok (.istore 6, 2) := by decide +kernel
theorem dL_law_752 : decode cL_law 752 = .ok (.aload_n 2, 1) := by decide +kernel
theorem dL_law_753 : decode cL_law 753 = .ok (.invokevirtual 71, 3) := by decide +kernel
theorem dL_law_756 : decode cL_law 756 = .ok (.iload 5, 2) := by decide +kernel
theorem dL_law_758 : decode cL_law 758 = .ok (.if_icmp .eq 5, 3) := by decide +kernel
theorem dL_law_761 : decode cL_law 761 = .ok (.iconst 0, 1) := by decide +kernel
theorem dL_law_762 : decode cL_law 762 = .ok (.ireturn, 1) := by decide +kernel
theorem dL_law_763 : decode cL_law 763 = .ok (.iload 5, 2) := by decide +kernel
theorem dL_law_765 : decode cL_law 765 = .ok (.ifCond .ne 15, 3) := by decide +kernel
theorem dL_law_768 : decode cL_law 768 = .ok (.aload_n 3, 1) := by decide +kernel
theorem dL_law_769 : decode cL_law 769 = .ok (.iconst 0, 1) := by decide +kernel
theorem dL_law_770 : decode cL_law 770 = .ok (.laload, 1) := by decide +kernel
theorem dL_law_771 : decode cL_law 771 = .ok (.iload 6, 2) := by decide +kernel
theorem dL_law_773 : decode cL_law 773 = .ok (.i2l, 1) := by decide +kernel
theorem dL_law_774 : decode cL_law 774 = .ok (.lcmp, 1) := by decide +kernel
theorem dL_law_775 : decode cL_law 775 = .ok (.ifCond .eq 5, 3) := by decide +kernel
theorem dL_law_778 : decode cL_law 778 = .ok (.iconst 0, 1) := by decide +kernel
theorem dL_law_779 : decode cL_law 779 = .ok (.ireturn, 1) := by decide +kernel
theorem dL_law_780 : decode cL_law 780 = .ok (.goto 333, 3) := by decide +kernel
theorem dL_law_783 : decode cL_law 783 = .ok (.aload_n 1, 1) := by decide +kernel
theorem dL_law_784 : decode cL_law 784 = .ok (.invokevirtual 116, 3) := by decide +kernel
theorem dL_law_787 : decode cL_law 787 = .ok (.aload_n 2, 1) := by decide +kernel
theorem dL_law_788 : decode cL_law 788 = .ok (.invokevirtual 120, 3) := by decide +kernel
theorem dL_law_791 : decode cL_law 791 = .ok (.lcmp, 1) := by decide +kernel
theorem dL_law_792 : decode cL_law 792 = .ok (.ifCond .eq 321, 3) := by decide +kernel
theorem dL_law_795 : decode cL_law 795 = .ok (.iconst 0, 1) := by decide +kernel
theorem dL_law_796 : decode cL_law 796 = .ok (.ireturn, 1) := by decide +kernel
theorem dL_law_797 : decode cL_law 797 = .ok (.aload_n 1, 1) := by decide +kernel
theorem dL_law_798 : decode cL_law 798 = .ok (.aload_n 0, 1) := by decide +kernel
theorem dL_law_799 : decode cL_law 799 = .ok (.iload 4, 2) := by decide +kernel
theorem dL_law_801 : decode cL_law 801 = .ok (.iconst 1, 1) := by decide +kernel
theorem dL_law_802 : decode cL_law 802 = .ok (.iadd, 1) := by decide +kernel
theorem dL_law_803 : decode cL_law 803 = .ok (.iaload, 1) := by decide +kernel
theorem dL_law_804 : decode cL_law 804 = .ok (.aload_n 3, 1) := by decide +kernel
theorem dL_law_805 : decode cL_law 805 = .ok (.invokestatic 121, 3) := by decide +kernel
theorem dL_law_808 : decode cL_law 808 = .ok (.istore 5, 2) := by decide +kernel
theorem dL_law_810 : decode cL_law 810 = .ok (.aload_n 2, 1) := by decide +kernel
theorem dL_law_811 : decode cL_law 811 = .ok (.aload_n 0, 1) := by decide +kernel
theorem dL_law_812 : decode cL_law 812 = .ok (.iload 4, 2) := by decide +kernel
theorem dL_law_814 : decode cL_law 814 = .ok (.iconst 1, 1) := by decide +kernel
theorem dL_law_815 : decode cL_law 815 = .ok (.iadd, 1) := by decide +kernel
theorem dL_law_816 : decode cL_law 816 = .ok (.iaload, 1) := by decide +kernel
theorem dL_law_817 : decode cL_law 817 = .ok (.invokevirtual 123, 3) := by decide +kernel
theorem dL_law_820 : decode cL_law 820 = .ok (.istore 6, 2) := by decide +kernel
theorem dL_law_822 : decode cL_law 822 = .ok (.aload_n 2, 1) := by decide +kernel
theorem dL_law_823 : decode cL_law 823 = .ok (.invokevirtual 71, 3) := by decide +kernel
theorem dL_law_826 : decode cL_law 826 = .ok (.iload 5, 2) := by decide +kernel
theorem dL_law_828 : decode cL_law 828 = .ok (.if_icmp .eq 5, 3) := by decide +kernel
theorem dL_law_831 : decode cL_law 831 = .ok (.iconst 0, 1) := by decide +kernel
theorem dL_law_832 : decode cL_law 832 = .ok (.ireturn, 1) := by decide +kernel
theorem dL_law_833 : decode cL_law 833 = .ok (.iload 5, 2) := by decide +kernel
theorem dL_law_835 : decode cL_law 835 = .ok (.ifCond .ne 15, 3) := by decide +kernel
theorem dL_law_838 : decode cL_law 838 = .ok (.aload_n 3, 1) := by decide +kernel
theorem dL_law_839 : decode cL_law 839 = .ok (.iconst 0, 1) := by decide +kernel
theorem dL_law_840 : decode cL_law 840 = .ok (.laload, 1) := by decide +kernel
theorem dL_law_841 : decode cL_law 841 = .ok (.iload 6, 2) := by decide +kernel
theorem dL_law_843 : decode cL_law 843 = .ok (.i2l, 1) := by decide +kernel
theorem dL_law_844 : decode cL_law 844 = .ok (.lcmp, 1) := by decide +kernel
theorem dL_law_845 : decode cL_law 845 = .ok (.ifCond .eq 5, 3) := by decide +kernel
theorem dL_law_848 : decode cL_law 848 = .ok (.iconst 0, 1) := by decide +kernel
theorem dL_law_849 : decode cL_law 849 = .ok (.ireturn, 1) := by decide +kernel
theorem dL_law_850 : decode cL_law 850 = .ok (.goto 263, 3) := by decide +kernel
theorem dL_law_853 : decode cL_law 853 = .ok (.aload_n 1, 1) := by decide +kernel
theorem dL_law_854 : decode cL_law 854 = .ok (.aload_n 0, 1) := by decide +kernel
theorem dL_law_855 : decode cL_law 855 = .ok (.iload 4, 2) := by decide +kernel
theorem dL_law_857 : decode cL_law 857 = .ok (.iconst 1, 1) := by decide +kernel
theorem dL_law_858 : decode cL_law 858 = .ok (.iadd, 1) := by decide +kernel
theorem dL_law_859 : decode cL_law 859 = .ok (.iaload, 1) := by decide +kernel
theorem dL_law_860 : decode cL_law 860 = .ok (.aload_n 0, 1) := by decide +kernel
theorem dL_law_861 : decode cL_law 861 = .ok (.iload 4, 2) := by decide +kernel
theorem dL_law_863 : decode cL_law 863 = .ok (.iconst 2, 1) := by decide +kernel
theorem dL_law_864 : decode cL_law 864 = .ok (.iadd, 1) := by decide +kernel
theorem dL_law_865 : decode cL_law 865 = .ok (.iaload, 1) := by decide +kernel
theorem dL_law_866 : decode cL_law 866 = .ok (.aload_n 3, 1) := by decide +kernel
theorem dL_law_867 : decode cL_law 867 = .ok (.invokestatic 124, 3) := by decide +kernel
theorem dL_law_870 : decode cL_law 870 = .ok (.istore 5, 2) := by decide +kernel
theorem dL_law_872 : decode cL_law 872 = .ok (.aload_n 2, 1) := by decide +kernel
theorem dL_law_873 : decode cL_law 873 = .ok (.aload_n 0, 1) := by decide +kernel
theorem dL_law_874 : decode cL_law 874 = .ok (.iload 4, 2) := by decide +kernel
theorem dL_law_876 : decode cL_law 876 = .ok (.iconst 1, 1) := by decide +kernel
theorem dL_law_877 : decode cL_law 877 = .ok (.iadd, 1) := by decide +kernel
theorem dL_law_878 : decode cL_law 878 = .ok (.iaload, 1) := by decide +kernel
theorem dL_law_879 : decode cL_law 879 = .ok (.aload_n 0, 1) := by decide +kernel
theorem dL_law_880 : decode cL_law 880 = .ok (.iload 4, 2) := by decide +kernel
theorem dL_law_882 : decode cL_law 882 = .ok (.iconst 2, 1) := by decide +kernel
theorem dL_law_883 : decode cL_law 883 = .ok (.iadd, 1) := by decide +kernel
theorem dL_law_884 : decode cL_law 884 = .ok (.iaload, 1) := by decide +kernel
theorem dL_law_885 : decode cL_law 885 = .ok (.invokevirtual 126, 3) := by decide +kernel
theorem dL_law_888 : decode cL_law 888 = .ok (.istore 6, 2) := by decide +kernel
theorem dL_law_890 : decode cL_law 890 = .ok (.aload_n 2, 1) := by decide +kernel
theorem dL_law_891 : decode cL_law 891 = .ok (.invokevirtual 71, 3) := by decide +kernel
theorem dL_law_894 : decode cL_law 894 = .ok (.iload 5, 2) := by decide +kernel
theorem dL_law_896 : decode cL_law 896 = .ok (.if_icmp .eq 5, 3) := by decide +kernel
theorem dL_law_899 : decode cL_law 899 = .ok (.iconst 0, 1) := by decide +kernel
theorem dL_law_900 : decode cL_law 900 = .ok (.ireturn, 1) := by decide +kernel
theorem dL_law_901 : decode cL_law 901 = .ok (.iload 5, 2) := by decide +kernel
theorem dL_law_903 : decode cL_law 903 = .ok (.ifCond .ne 15, 3) := by decide +kernel
theorem dL_law_906 : decode cL_law 906 = .ok (.aload_n 3, 1) := by decide +kernel
theorem dL_law_907 : decode cL_law 907 = .ok (.iconst 0, 1) := by decide +kernel
theorem dL_law_908 : decode cL_law 908 = .ok (.laload, 1) := by decide +kernel
theorem dL_law_909 : decode cL_law 909 = .ok (.iload 6, 2) := by decide +kernel
theorem dL_law_911 : decode cL_law 911 = .ok (.i2l, 1) := by decide +kernel
theorem dL_law_912 : decode cL_law 912 = .ok (.lcmp, 1) := by decide +kernel
theorem dL_law_913 : decode cL_law 913 = .ok (.ifCond .eq 5, 3) := by decide +kernel
theorem dL_law_916 : decode cL_law 916 = .ok (.iconst 0, 1) := by decide +kernel
theorem dL_law_917 : decode cL_law 917 = .ok (.ireturn, 1) := by decide +kernel
theorem dL_law_918 : decode cL_law 918 = .ok (.goto 195, 3) := by decide +kernel
theorem dL_law_921 : decode cL_law 921 = .ok (.aload_n 1, 1) := by decide +kernel
theorem dL_law_922 : decode cL_law 922 = .ok (.aload_n 0, 1) := by decide +kernel
theorem dL_law_923 : decode cL_law 923 = .ok (.iload 4, 2) := by decide +kernel
theorem dL_law_925 : decode cL_law 925 = .ok (.iconst 1, 1) := by decide +kernel
theorem dL_law_926 : decode cL_law 926 = .ok (.iadd, 1) := by decide +kernel
theorem dL_law_927 : decode cL_law 927 = .ok (.iaload, 1) := by decide +kernel
theorem dL_law_928 : decode cL_law 928 = .ok (.aload_n 0, 1) := by decide +kernel
theorem dL_law_929 : decode cL_law 929 = .ok (.iload 4, 2) := by decide +kernel
theorem dL_law_931 : decode cL_law 931 = .ok (.iconst 2, 1) := by decide +kernel
theorem dL_law_932 : decode cL_law 932 = .ok (.iadd, 1) := by decide +kernel
theorem dL_law_933 : decode cL_law 933 = .ok (.iaload, 1) := by decide +kernel
theorem dL_law_934 : decode cL_law 934 = .ok (.aload_n 3, 1) := by decide +kernel
theorem dL_law_935 : decode cL_law 935 = .ok (.invokestatic 127, 3) := by decide +kernel
theorem dL_law_938 : decode cL_law 938 = .ok (.istore 5, 2) := by decide +kernel
theorem dL_law_940 : decode cL_law 940 = .ok (.aload_n 2, 1) := by decide +kernel
theorem dL_law_941 : decode cL_law 941 = .ok (.aload_n 0, 1) := by decide +kernel
theorem dL_law_942 : decode cL_law 942 = .ok (.iload 4, 2) := by decide +kernel
theorem dL_law_944 : decode cL_law 944 = .ok (.iconst 1, 1) := by decide +kernel
theorem dL_law_945 : decode cL_law 945 = .ok (.iadd, 1) := by decide +kernel
theorem dL_law_946 : decode cL_law 946 = .ok (.iaload, 1) := by decide +kernel
theorem dL_law_947 : decode cL_law 947 = .ok (.aload_n 0, 1) := by decide +kernel
theorem dL_law_948 : decode cL_law 948 = .ok (.iload 4, 2) := by decide +kernel
theorem dL_law_950 : decode cL_law 950 = .ok (.iconst 2, 1) := by decide +kernel
theorem dL_law_951 : decode cL_law 951 = .ok (.iadd, 1) := by decide +kernel
theorem dL_law_952 : decode cL_law 952 = .ok (.iaload, 1) := by decide +kernel
theorem dL_law_953 : decode cL_law 953 = .ok (.invokevirtual 129, 3) := by decide +kernel
theorem dL_law_956 : decode cL_law 956 = .ok (.istore 6, 2) := by decide +kernel
theorem dL_law_958 : decode cL_law 958 = .ok (.aload_n 2, 1) := by decide +kernel
theorem dL_law_959 : decode cL_law 959 = .ok (.invokevirtual 71, 3) := by decide +kernel
theorem dL_law_962 : decode cL_law 962 = .ok (.iload 5, 2) := by decide +kernel
theorem dL_law_964 : decode cL_law 964 = .ok (.if_icmp .eq 5, 3) := by decide +kernel
theorem dL_law_967 : decode cL_law 967 = .ok (.iconst 0, 1) := by decide +kernel
theorem dL_law_968 : decode cL_law 968 = .ok (.ireturn, 1) := by decide +kernel
theorem dL_law_969 : decode cL_law 969 = .ok (.iload 5, 2) := by decide +kernel
theorem dL_law_971 : decode cL_law 971 = .ok (.ifCond .ne 15, 3) := by decide +kernel
theorem dL_law_974 : decode cL_law 974 = .ok (.aload_n 3, 1) := by decide +kernel
theorem dL_law_975 : decode cL_law 975 = .ok (.iconst 0, 1) := by decide +kernel
theorem dL_law_976 : decode cL_law 976 = .ok (.laload, 1) := by decide +kernel
theorem dL_law_977 : decode cL_law 977 = .ok (.iload 6, 2) := by decide +kernel
theorem dL_law_979 : decode cL_law 979 = .ok (.i2l, 1) := by decide +kernel
theorem dL_law_980 : decode cL_law 980 = .ok (.lcmp, 1) := by decide +kernel
theorem dL_law_981 : decode cL_law 981 = .ok (.ifCond .eq 5, 3) := by decide +kernel
theorem dL_law_984 : decode cL_law 984 = .ok (.iconst 0, 1) := by decide +kernel
theorem dL_law_985 : decode cL_law 985 = .ok (.ireturn, 1) := by decide +kernel
theorem dL_law_986 : decode cL_law 986 = .ok (.goto 127, 3) := by decide +kernel
theorem dL_law_989 : decode cL_law 989 = .ok (.aload_n 1, 1) := by decide +kernel
theorem dL_law_990 : decode cL_law 990 = .ok (.aload_n 0, 1) := by decide +kernel
theorem dL_law_991 : decode cL_law 991 = .ok (.iload 4, 2) := by decide +kernel
theorem dL_law_993 : decode cL_law 993 = .ok (.iconst 1, 1) := by decide +kernel
theorem dL_law_994 : decode cL_law 994 = .ok (.iadd, 1) := by decide +kernel
theorem dL_law_995 : decode cL_law 995 = .ok (.iaload, 1) := by decide +kernel
theorem dL_law_996 : decode cL_law 996 = .ok (.aload_n 3, 1) := by decide +kernel
theorem dL_law_997 : decode cL_law 997 = .ok (.invokestatic 130, 3) := by decide +kernel
theorem dL_law_1000 : decode cL_law 1000 = .ok (.istore 5, 2) := by decide +kernel
theorem dL_law_1002 : decode cL_law 1002 = .ok (.aload_n 2, 1) := by decide +kernel
theorem dL_law_1003 : decode cL_law 1003 = .ok (.aload_n 0, 1) := by decide +kernel
theorem dL_law_1004 : decode cL_law 1004 = .ok (.iload 4, 2) := by decide +kernel
theorem dL_law_1006 : decode cL_law 1006 = .ok (.iconst 1, 1) := by decide +kernel
theorem dL_law_1007 : decode cL_law 1007 = .ok (.iadd, 1) := by decide +kernel
theorem dL_law_1008 : decode cL_law 1008 = .ok (.iaload, 1) := by decide +kernel
theorem dL_law_1009 : decode cL_law 1009 = .ok (.invokevirtual 132, 3) := by decide +kernel
theorem dL_law_1012 : decode cL_law 1012 = .ok (.istore 6, 2) := by decide +kernel
theorem dL_law_1014 : decode cL_law 1014 = .ok (.aload_n 2, 1) := by decide +kernel
theorem dL_law_1015 : decode cL_law 1015 = .ok (.invokevirtual 71, 3) := by decide +kernel
theorem dL_law_1018 : decode cL_law 1018 = .ok (.iload 5, 2) := by decide +kernel
theorem dL_law_1020 : decode cL_law 1020 = .ok (.if_icmp .eq 5, 3) := by decide +kernel
theorem dL_law_1023 : decode cL_law 1023 = .ok (.iconst 0, 1) := by decide +kernel
theorem dL_law_1024 : decode cL_law 1024 = .ok (.ireturn, 1) := by decide +kernel
theorem dL_law_1025 : decode cL_law 1025 = .ok (.iload 5, 2) := by decide +kernel
theorem dL_law_1027 : decode cL_law 1027 = .ok (.ifCond .ne 15, 3) := by decide +kernel
theorem dL_law_1030 : decode cL_law 1030 = .ok (.aload_n 3, 1) := by decide +kernel
theorem dL_law_1031 : decode cL_law 1031 = .ok (.iconst 0, 1) := by decide +kernel
theorem dL_law_1032 : decode cL_law 1032 = .ok (.laload, 1) := by decide +kernel
theorem dL_law_1033 : decode cL_law 1033 = .ok (.iload 6, 2) := by decide +kernel
theorem dL_law_1035 : decode cL_law 1035 = .ok (.i2l, 1) := by decide +kernel
theorem dL_law_1036 : decode cL_law 1036 = .ok (.lcmp, 1) := by decide +kernel
theorem dL_law_1037 : decode cL_law 1037 = .ok (.ifCond .eq 5, 3) := by decide +kernel
theorem dL_law_1040 : decode cL_law 1040 = .ok (.iconst 0, 1) := by decide +kernel
theorem dL_law_1041 : decode cL_law 1041 = .ok (.ireturn, 1) := by decide +kernel
theorem dL_law_1042 : decode cL_law 1042 = .ok (.goto 71, 3) := by decide +kernel
theorem dL_law_1045 : decode cL_law 1045 = .ok (.aload_n 1, 1) := by decide +kernel
theorem dL_law_1046 : decode cL_law 1046 = .ok (.invokevirtual 133, 3) := by decide +kernel
theorem dL_law_1049 : decode cL_law 1049 = .ok (.aload_n 2, 1) := by decide +kernel
theorem dL_law_1050 : decode cL_law 1050 = .ok (.invokevirtual 136, 3) := by decide +kernel
theorem dL_law_1053 : decode cL_law 1053 = .ok (.if_icmp .eq 60, 3) := by decide +kernel
theorem dL_law_1056 : decode cL_law 1056 = .ok (.iconst 0, 1) := by decide +kernel
theorem dL_law_1057 : decode cL_law 1057 = .ok (.ireturn, 1) := by decide +kernel
theorem dL_law_1058 : decode cL_law 1058 = .ok (.aload_n 1, 1) := by decide +kernel
theorem dL_law_1059 : decode cL_law 1059 = .ok (.invokevirtual 137, 3) := by decide +kernel
theorem dL_law_1062 : decode cL_law 1062 = .ok (.dstore 5, 2) := by decide +kernel
theorem dL_law_1064 : decode cL_law 1064 = .ok (.aload_n 2, 1) := by decide +kernel
theorem dL_law_1065 : decode cL_law 1065 = .ok (.invokevirtual 141, 3) := by decide +kernel
theorem dL_law_1068 : decode cL_law 1068 = .ok (.dstore 7, 2) := by decide +kernel
theorem dL_law_1070 : decode cL_law 1070 = .ok (.dload 5, 2) := by decide +kernel
theorem dL_law_1072 : decode cL_law 1072 = .ok (.dload 7, 2) := by decide +kernel
theorem dL_law_1074 : decode cL_law 1074 = .ok (.dcmp .l, 1) := by decide +kernel
theorem dL_law_1075 : decode cL_law 1075 = .ok (.ifCond .eq 21, 3) := by decide +kernel
theorem dL_law_1078 : decode cL_law 1078 = .ok (.dload 5, 2) := by decide +kernel
theorem dL_law_1080 : decode cL_law 1080 = .ok (.dload 5, 2) := by decide +kernel
theorem dL_law_1082 : decode cL_law 1082 = .ok (.dcmp .l, 1) := by decide +kernel
theorem dL_law_1083 : decode cL_law 1083 = .ok (.ifCond .eq 11, 3) := by decide +kernel
theorem dL_law_1086 : decode cL_law 1086 = .ok (.dload 7, 2) := by decide +kernel
theorem dL_law_1088 : decode cL_law 1088 = .ok (.dload 7, 2) := by decide +kernel
theorem dL_law_1090 : decode cL_law 1090 = .ok (.dcmp .l, 1) := by decide +kernel
theorem dL_law_1091 : decode cL_law 1091 = .ok (.ifCond .ne 5, 3) := by decide +kernel
theorem dL_law_1094 : decode cL_law 1094 = .ok (.iconst 0, 1) := by decide +kernel
theorem dL_law_1095 : decode cL_law 1095 = .ok (.ireturn, 1) := by decide +kernel
theorem dL_law_1096 : decode cL_law 1096 = .ok (.goto 17, 3) := by decide +kernel
theorem dL_law_1099 : decode cL_law 1099 = .ok (.aload_n 1, 1) := by decide +kernel
theorem dL_law_1100 : decode cL_law 1100 = .ok (.invokevirtual 142, 3) := by decide +kernel
theorem dL_law_1103 : decode cL_law 1103 = .ok (.aload_n 2, 1) := by decide +kernel
theorem dL_law_1104 : decode cL_law 1104 = .ok (.invokevirtual 145, 3) := by decide +kernel
theorem dL_law_1107 : decode cL_law 1107 = .ok (.lcmp, 1) := by decide +kernel
theorem dL_law_1108 : decode cL_law 1108 = .ok (.ifCond .eq 5, 3) := by decide +kernel
theorem dL_law_1111 : decode cL_law 1111 = .ok (.iconst 0, 1) := by decide +kernel
theorem dL_law_1112 : decode cL_law 1112 = .ok (.ireturn, 1) := by decide +kernel
theorem dL_law_1113 : decode cL_law 1113 = .ok (.iinc 4 4, 3) := by decide +kernel
theorem dL_law_1116 : decode cL_law 1116 = .ok (.goto (-1093), 3) := by decide +kernel
theorem dL_law_1119 : decode cL_law 1119 = .ok (.iconst 1, 1) := by decide +kernel
theorem dL_law_1120 : decode cL_law 1120 = .ok (.ireturn, 1) := by decide +kernel
end
